/-- one mark more: what the new map must be -/
theorem DkX.mark {k : Nat → ClassId} {M : mp_M} {d av ak at_ aw as_ an : Nat} {qt qs qn : Nat → Option Nat} {sa ra : Nat → Nat} {ec tc wc sc nc : Nat} {va : Nat → Int64} {kd wt tk tf tz sk sf sw sl nn : Nat → Nat} {nv : Nat → Nat → Int64} (F : mp_M) (q r : Nat) (qn2 : Nat → Option Nat) (g : Nat → Int64) (h : DkX k M d av ak at_ aw as_ an qt qs qn sa ra ec tc wc sc nc va kd wt tk tf tz sk sf sw sl nn nv) (hnc : nc < 20) (hec : ec ≤ 4000)
    (f0 : F d = some (.inr (0, [.ref av, .ref ak, .int (nI ec), .ref at_, .int (nI tc), .ref aw, .int (nI wc), .ref as_, .int (nI sc), .ref an, .int (nI (nc + 1))]))) (f1 : F av = M av) (f2 : F ak = M ak) (f3 : F at_ = M at_) (f4 : F aw = M aw) (f5 : F as_ = M as_) (f6 : F an = some (.inl (k 4, 20, .inr (.inr (.inr (.inr qn2))))))
    (ft : ∀ i a, i < tc → qt i = some a → F a = M a) (fs : ∀ i a, i < sc → qs i = some a → F a = M a) (fn : ∀ i, i < 20 → i ≠ nc → qn i ≠ none → F (sa i) = M (sa i) ∧ F (ra i) = M (ra i))
    (fq : F q = some (.inr (3, [.ref r, .int (nI ec)]))) (fr : F r = some (.inl (k 1, 4000, .inr (.inl g)))) (hg : ∀ j, j < ec → g j = va j) (hra : r ≠ av)
    (hq2 : qn2 nc = some q) (hqo : ∀ i, i ≠ nc → qn2 i = qn i) (hd : ∀ i, i < 20 → i ≠ nc → qn i ≠ none → sa i ≠ q ∧ ra i ≠ r) :
    DkX k F d av ak at_ aw as_ an qt qs (qn2) (nu sa nc q) (nu ra nc r) ec tc wc sc (nc + 1) va kd wt tk tf tz sk sf sw sl (nu nn nc ec) (fun i => if i = nc then va else nv i) := by
  obtain ⟨h0, hav, hak, hat, haw, has, han, hth, hsp, hsn, hij⟩ := h
  refine ⟨f0, f1.trans hav, f2.trans hak, f3.trans hat, f4.trans haw, f5.trans has, f6, ?_, ?_, ?_, ?_⟩
  · exact fun i hi => by
      obtain ⟨a, h1, h2⟩ := hth i hi
      exact ⟨a, h1, (ft i a hi h1).trans h2⟩
  · exact fun i hi => by
      obtain ⟨a, h1, h2⟩ := hsp i hi
      exact ⟨a, h1, (fs i a hi h1).trans h2⟩
  · exact fun i hi => by
      by_cases e : i = nc
      · subst e
        exact Or.inr ⟨by rw [hq2, nu_s], by rw [nu_s]; exact hra, ec, g, by rw [nu_s, nu_s]; exact fq, by rw [nu_s]; exact fr, hec, fun _ => ⟨by rw [nu_s], fun j hj => by show g j = (if i = i then va else nv i) j; rw [if_pos rfl]; exact hg j hj⟩⟩
      · rw [nu_n e, nu_n e, hqo i e, nu_n e]
        rcases hsn i hi with ⟨h1, h2⟩ | ⟨h1, h2, cn, g', h3, h4, h5, h6⟩
        · exact Or.inl ⟨h1, by omega⟩
        · have hf := fn i hi e (by rw [h1]; simp)
          exact Or.inr ⟨h1, h2, cn, g', hf.1.trans h3, hf.2.trans h4, h5, fun hlt => by
            obtain ⟨a1, a2⟩ := h6 (by omega)
            exact ⟨a1, fun j hj => by show g' j = (if i = nc then va else nv i) j; rw [if_neg e]; exact a2 j hj⟩⟩
  · intro i j hi hj h1 h2 hne
    by_cases ei : i = nc
    · have ej : j ≠ nc := fun z => hne (ei.trans z.symm)
      rw [hqo j ej] at h2
      rw [ei, nu_s, nu_s, nu_n ej, nu_n ej]
      exact ⟨(hd j hj ej h2).1.symm, (hd j hj ej h2).2.symm⟩
    · rw [hqo i ei] at h1
      by_cases ej : j = nc
      · rw [ej, nu_s, nu_s, nu_n ei, nu_n ei]
        exact hd i hi ei h1
      · rw [hqo j ej] at h2
        rw [nu_n ei, nu_n ei, nu_n ej, nu_n ej]
        exact hij i j hi hj h1 h2 hne
theorem mp_none_ne {M : mp_M} {a q : Nat} {x : va_E} (ha : M a = some x) (hq : M q = none) : a ≠ q := fun z => by rw [z, hq] at ha; cases ha
abbrev rm_D_mark : Room := { frames := 2, cells := 2, slots := 4002, locals := 90 }
set_option maxHeartbeats 4000000 in
set_option maxRecDepth 100000 in
theorem kD_mark (l : Launch) (D : va_G) (k : Nat → ClassId) (M : mp_M) {d av ak at_ aw as_ an : Nat} {qt qs qn : Nat → Option Nat} {sa ra : Nat → Nat} {ec tc wc sc nc : Nat} {va : Nat → Int64} {kd wt tk tf tz sk sf sw sl nn : Nat → Nat} {nv : Nat → Nat → Int64} (hD : DkX k M d av ak at_ aw as_ an qt qs qn sa ra ec tc wc sc nc va kd wt tk tf tz sk sf sw sl nn nv) (hO : OkB ec tc wc sc nc tk tf tz sk sf sw sl nn) : mp_Met l yD_mark (Cond.code yD_mark cD_mark 2 (some .int) :: bw) rm_D_mark D cls5 (tys6 k) [.ref d] M (va_Qi (fun r M1 => (nc < 20 ∧ r = nI nc ∧ ∃ (qn2 : Nat → Option Nat) (sa2 ra2 : Nat → Nat), DkX k M1 d av ak at_ aw as_ an qt qs (qn2) (sa2) (ra2) ec tc wc sc (nc + 1) va kd wt tk tf tz sk sf sw sl (nu nn nc ec) (fun i => if i = nc then va else nv i)) ∨ (¬ nc < 20 ∧ r = -1 ∧ M1 = M))) 2 4002 := by
  refine mp_Met.of (by decide) (Nat.le_of_ble_eq_true rfl) ?_
  intro p e s m below meth c hx hb hr hml hown hts hlocks hin ls hl I
  have hl : lv_has ls 2 [(0, .ref d)] := hl
  obtain ⟨h0, hav, hak, hat, haw, has, han, hth, hsp, hsn, hij⟩ := id hD
  obtain ⟨b1, b2, b3, b4, b5, bT, bS, bN⟩ := id hO
  refine lv_aload_n hx hb dD_mark_0 rfl (lv_at hl 0 rfl) ?_
  refine mp_get (v := .int (nI nc)) hx hb hts inD hown I h0 rfl 10 (by decide) (hts _ bw_36) (fun _ h9 => h9) rfl dD_mark_1 ?_
  refine lv_bipush (v := nI 20) hx hb dD_mark_4 (by decide) ?_
  refine zz_icmp_lt (tgt := 11) hx hb (nI_toInt (by first | assumption | omega)) (nI_toInt (by decide)) dD_mark_6 (by decide) (fun c_1 => ?_) (fun c_1 => ?_)
  · rcases hsn nc (by omega) with ⟨hqn, -⟩ | ⟨hqn, hra, cn, g, hsa, hrr, hcn, -⟩
    · refine lv_aload_n hx hb dD_mark_11 rfl (lv_at hl 0 rfl) ?_
      refine mp_get (v := .ref an) hx hb hts inD hown I h0 rfl 9 (by decide) (hts _ bw_35) (fun _ h9 => h9) rfl dD_mark_12 ?_
      refine lv_aload_n hx hb dD_mark_15 rfl (lv_at hl 0 rfl) ?_
      refine mp_get (v := .int (nI nc)) hx hb hts inD hown I h0 rfl 10 (by decide) (hts _ bw_36) (fun _ h9 => h9) rfl dD_mark_16 ?_
      refine mp_aald hx hb I 4 han rfl nc rfl (by omega) (by decide) (v := .null) (by rw [hqn]; rfl) dD_mark_19 ?_
      refine lv_astore_nN (lv' := [(1, .null), (0, .ref d)]) hx hb dD_mark_20 rfl hl (by decide) rfl (fun ls hl => ?_)
      refine lv_aload_nN hx hb dD_mark_21 rfl (lv_at hl 0 rfl) ?_
      refine lv_ifnonnullN hx hb dD_mark_22 ?_
      refine mp_new (fs := [.null, .int 0]) hx hb hts inN tyN okN hown (hts _ bw_24) (hts _ bw_179) (hts _ bw_11) I (ci := 3) rfl (fun j hj => by rcases (show j = 0 ∨ j = 1 by omega) with rfl | rfl <;> rfl) (Nat.le_of_ble_eq_true rfl) (Nat.le_of_ble_eq_true rfl) dD_mark_25 (fun q H hq_2 I => ?_)
      have hqq_n : mp_up M q (.inr (3, [.null, .int 0])) q = some (.inr (3, [.null, .int 0])) := mp_up_s _ _ _
      have h0_n : mp_up M q (.inr (3, [.null, .int 0])) d = some (.inr (0, [.ref av, .ref ak, .int (nI ec), .ref at_, .int (nI tc), .ref aw, .int (nI wc), .ref as_, .int (nI sc), .ref an, .int (nI nc)])) := (mp_up_n (fun z => by rw [z, hq_2] at h0; cases h0)).trans h0
      have hav_n : mp_up M q (.inr (3, [.null, .int 0])) av = some (.inl (k 1, 4000, .inr (.inl va))) := (mp_up_n (fun z => by rw [z, hq_2] at hav; cases hav)).trans hav
      have hak_n : mp_up M q (.inr (3, [.null, .int 0])) ak = some (.inl (k 0, 4000, .inl (fun i_ => nI (kd i_)))) := (mp_up_n (fun z => by rw [z, hq_2] at hak; cases hak)).trans hak
      have hat_n : mp_up M q (.inr (3, [.null, .int 0])) at_ = some (.inl (k 2, 300, .inr (.inr (.inr (.inr qt))))) := (mp_up_n (fun z => by rw [z, hq_2] at hat; cases hat)).trans hat
      have haw_n : mp_up M q (.inr (3, [.null, .int 0])) aw = some (.inl (k 0, 12, .inl (fun i_ => nI (wt i_)))) := (mp_up_n (fun z => by rw [z, hq_2] at haw; cases haw)).trans haw
      have has_n : mp_up M q (.inr (3, [.null, .int 0])) as_ = some (.inl (k 3, 100, .inr (.inr (.inr (.inr qs))))) := (mp_up_n (fun z => by rw [z, hq_2] at has; cases has)).trans has
      have han_n : mp_up M q (.inr (3, [.null, .int 0])) an = some (.inl (k 4, 20, .inr (.inr (.inr (.inr qn))))) := (mp_up_n (fun z => by rw [z, hq_2] at han; cases han)).trans han
      generalize eM_4 : mp_up M q (.inr (3, [.null, .int 0])) = M_3 at I hqq_n h0_n hav_n hak_n hat_n haw_n has_n han_n
      have h0__M_3 := h0_n
      have hav__M_3 := hav_n
      have hak__M_3 := hak_n
      have hat__M_3 := hat_n
      have haw__M_3 := haw_n
      have has__M_3 := has_n
      have han__M_3 := han_n
      have hqq__M_3 := hqq_n
      clear hqq_n h0_n hav_n hak_n hat_n haw_n has_n han_n
      have hq0 : M q = none := hq_2
      refine lv_dup hx hb dD_mark_28 rfl ?_
      refine mp_callv (va_runIN (As := []) (rest := [.ref q]) ⟨hx, hb, hml, hown, hts⟩ (kN_init l D k M_3 q hqq__M_3 _) ⟨va_cnB 0 hts (bw_I bw_182) rfl rfl rfl I.1.2.1 (hts _ bw_11) (by decide +kernel) ⟨Nat.le_of_ble_eq_true rfl, Nat.le_of_ble_eq_true rfl⟩, rfl, hts _ bw_181⟩ (mp_preS I _) rfl rfl hl.1 rfl (lv_room (Nat.le_of_ble_eq_true rfl)) dD_mark_29 ⟨Nat.le_of_ble_eq_true rfl, Nat.le_of_ble_eq_true rfl⟩) I (fun N1 H locs hp I => ?_)
      obtain ⟨r, hr0, hp⟩ := hp
      rw [hp] at I
      have hrq : r ≠ q := fun z => by rw [z, hqq__M_3] at hr0; cases hr0
      have hrM : M r = none := by rw [← eM_4, mp_up_n hrq] at hr0; exact hr0
      have hqr_n : mp_up M_3 r (.inl (k 1, 4000, .inr (.inl (fun _ => 0)))) r = some (.inl (k 1, 4000, .inr (.inl (fun _ => 0)))) := mp_up_s _ _ _
      have h0__M_3_n : mp_up M_3 r (.inl (k 1, 4000, .inr (.inl (fun _ => 0)))) d = some (.inr (0, [.ref av, .ref ak, .int (nI ec), .ref at_, .int (nI tc), .ref aw, .int (nI wc), .ref as_, .int (nI sc), .ref an, .int (nI nc)])) := (mp_up_n (fun z => by rw [z, hr0] at h0__M_3; cases h0__M_3)).trans h0__M_3
      have hav__M_3_n : mp_up M_3 r (.inl (k 1, 4000, .inr (.inl (fun _ => 0)))) av = some (.inl (k 1, 4000, .inr (.inl va))) := (mp_up_n (fun z => by rw [z, hr0] at hav__M_3; cases hav__M_3)).trans hav__M_3
      have hak__M_3_n : mp_up M_3 r (.inl (k 1, 4000, .inr (.inl (fun _ => 0)))) ak = some (.inl (k 0, 4000, .inl (fun i_ => nI (kd i_)))) := (mp_up_n (fun z => by rw [z, hr0] at hak__M_3; cases hak__M_3)).trans hak__M_3
      have hat__M_3_n : mp_up M_3 r (.inl (k 1, 4000, .inr (.inl (fun _ => 0)))) at_ = some (.inl (k 2, 300, .inr (.inr (.inr (.inr qt))))) := (mp_up_n (fun z => by rw [z, hr0] at hat__M_3; cases hat__M_3)).trans hat__M_3
      have haw__M_3_n : mp_up M_3 r (.inl (k 1, 4000, .inr (.inl (fun _ => 0)))) aw = some (.inl (k 0, 12, .inl (fun i_ => nI (wt i_)))) := (mp_up_n (fun z => by rw [z, hr0] at haw__M_3; cases haw__M_3)).trans haw__M_3
      have has__M_3_n : mp_up M_3 r (.inl (k 1, 4000, .inr (.inl (fun _ => 0)))) as_ = some (.inl (k 3, 100, .inr (.inr (.inr (.inr qs))))) := (mp_up_n (fun z => by rw [z, hr0] at has__M_3; cases has__M_3)).trans has__M_3
      have han__M_3_n : mp_up M_3 r (.inl (k 1, 4000, .inr (.inl (fun _ => 0)))) an = some (.inl (k 4, 20, .inr (.inr (.inr (.inr qn))))) := (mp_up_n (fun z => by rw [z, hr0] at han__M_3; cases han__M_3)).trans han__M_3
      have hqq__M_3_n : mp_up M_3 r (.inl (k 1, 4000, .inr (.inl (fun _ => 0)))) q = some (.inr (3, [.null, .int 0])) := (mp_up_n (fun z => by rw [z, hr0] at hqq__M_3; cases hqq__M_3)).trans hqq__M_3
      generalize eM_6 : mp_up M_3 r (.inl (k 1, 4000, .inr (.inl (fun _ => 0)))) = M_5 at I hqr_n h0__M_3_n hav__M_3_n hak__M_3_n hat__M_3_n haw__M_3_n has__M_3_n han__M_3_n hqq__M_3_n
      have h0__M_5 := h0__M_3_n
      have hav__M_5 := hav__M_3_n
      have hak__M_5 := hak__M_3_n
      have hat__M_5 := hat__M_3_n
      have haw__M_5 := haw__M_3_n
      have has__M_5 := has__M_3_n
      have han__M_5 := han__M_3_n
      have hqq__M_5 := hqq__M_3_n
      have hqr__M_5 := hqr_n
      clear hqr_n h0__M_3_n hav__M_3_n hak__M_3_n hat__M_3_n haw__M_3_n has__M_3_n han__M_3_n hqq__M_3_n
      have I : mp_I D cls5 (tys6 k) s _ s.heap H locs (mp_up M_5 q (.inr (3, [.ref r, .int (nI 0)]))) := I
      have hqq__M_5_n : mp_up M_5 q (.inr (3, [.ref r, .int (nI 0)])) q = some (.inr (3, [.ref r, .int (nI 0)])) := mp_up_s _ _ _
      have h0__M_5_n : mp_up M_5 q (.inr (3, [.ref r, .int (nI 0)])) d = some (.inr (0, [.ref av, .ref ak, .int (nI ec), .ref at_, .int (nI tc), .ref aw, .int (nI wc), .ref as_, .int (nI sc), .ref an, .int (nI nc)])) := (mp_up_n (mp_ne h0__M_5 hqq__M_5 (by simp))).trans h0__M_5
      have hav__M_5_n : mp_up M_5 q (.inr (3, [.ref r, .int (nI 0)])) av = some (.inl (k 1, 4000, .inr (.inl va))) := (mp_up_n (mp_ne hav__M_5 hqq__M_5 (by simp))).trans hav__M_5
      have hak__M_5_n : mp_up M_5 q (.inr (3, [.ref r, .int (nI 0)])) ak = some (.inl (k 0, 4000, .inl (fun i_ => nI (kd i_)))) := (mp_up_n (mp_ne hak__M_5 hqq__M_5 (by simp))).trans hak__M_5
      have hat__M_5_n : mp_up M_5 q (.inr (3, [.ref r, .int (nI 0)])) at_ = some (.inl (k 2, 300, .inr (.inr (.inr (.inr qt))))) := (mp_up_n (mp_ne hat__M_5 hqq__M_5 (by simp))).trans hat__M_5
      have haw__M_5_n : mp_up M_5 q (.inr (3, [.ref r, .int (nI 0)])) aw = some (.inl (k 0, 12, .inl (fun i_ => nI (wt i_)))) := (mp_up_n (mp_ne haw__M_5 hqq__M_5 (by simp))).trans haw__M_5
      have has__M_5_n : mp_up M_5 q (.inr (3, [.ref r, .int (nI 0)])) as_ = some (.inl (k 3, 100, .inr (.inr (.inr (.inr qs))))) := (mp_up_n (mp_ne has__M_5 hqq__M_5 (by simp))).trans has__M_5
      have han__M_5_n : mp_up M_5 q (.inr (3, [.ref r, .int (nI 0)])) an = some (.inl (k 4, 20, .inr (.inr (.inr (.inr qn))))) := (mp_up_n (mp_ne han__M_5 hqq__M_5 (by simp))).trans han__M_5
      have hqr__M_5_n : mp_up M_5 q (.inr (3, [.ref r, .int (nI 0)])) r = some (.inl (k 1, 4000, .inr (.inl (fun _ => 0)))) := (mp_up_n (mp_ne hqr__M_5 hqq__M_5 (by simp))).trans hqr__M_5
      generalize eM_8 : mp_up M_5 q (.inr (3, [.ref r, .int (nI 0)])) = M_7 at I h0__M_5_n hav__M_5_n hak__M_5_n hat__M_5_n haw__M_5_n has__M_5_n han__M_5_n hqq__M_5_n hqr__M_5_n
      have h0__M_7 := h0__M_5_n
      have hav__M_7 := hav__M_5_n
      have hak__M_7 := hak__M_5_n
      have hat__M_7 := hat__M_5_n
      have haw__M_7 := haw__M_5_n
      have has__M_7 := has__M_5_n
      have han__M_7 := han__M_5_n
      have hqq__M_7 := hqq__M_5_n
      have hqr__M_7 := hqr__M_5_n
      clear h0__M_5_n hav__M_5_n hak__M_5_n hat__M_5_n haw__M_5_n has__M_5_n han__M_5_n hqq__M_5_n hqr__M_5_n
      refine lv_astore_n (lv' := [(1, .ref q), (0, .ref d)]) hx hb dD_mark_32 rfl hl (by decide) rfl (fun ls hl => ?_)
      refine lv_aload_n hx hb dD_mark_33 rfl (lv_at hl 1 rfl) ?_
      refine mp_get (v := .ref an) hx hb hts inD hown I h0__M_7 rfl 9 (by decide) (hts _ bw_35) (fun _ h9 => h9) rfl dD_mark_34 ?_
      refine lv_aload_n hx hb dD_mark_37 rfl (lv_at hl 1 rfl) ?_
      refine mp_get (v := .int (nI nc)) hx hb hts inD hown I h0__M_7 rfl 10 (by decide) (hts _ bw_36) (fun _ h9 => h9) rfl dD_mark_38 ?_
      refine lv_aload_n hx hb dD_mark_41 rfl (lv_at hl 0 rfl) ?_
      refine mp_aast (r := (RN, FN, 2)) hx hb I 4 3 han__M_7 rfl hqq__M_7 rfl nc rfl (by omega) (by decide) dD_mark_42 (fun H locs I => ?_)
      have I : mp_I D cls5 (tys6 k) s _ s.heap H locs (mp_up M_7 an (.inl (k 4, 20, .inr (.inr (.inr (.inr (va_up qn nc (some q)))))))) := I
      have han__M_7_n : mp_up M_7 an (.inl (k 4, 20, .inr (.inr (.inr (.inr (va_up qn nc (some q))))))) an = some (.inl (k 4, 20, .inr (.inr (.inr (.inr (va_up qn nc (some q))))))) := mp_up_s _ _ _
      have h0__M_7_n : mp_up M_7 an (.inl (k 4, 20, .inr (.inr (.inr (.inr (va_up qn nc (some q))))))) d = some (.inr (0, [.ref av, .ref ak, .int (nI ec), .ref at_, .int (nI tc), .ref aw, .int (nI wc), .ref as_, .int (nI sc), .ref an, .int (nI nc)])) := (mp_up_n (mp_ne h0__M_7 han__M_7 (by simp))).trans h0__M_7
      have hav__M_7_n : mp_up M_7 an (.inl (k 4, 20, .inr (.inr (.inr (.inr (va_up qn nc (some q))))))) av = some (.inl (k 1, 4000, .inr (.inl va))) := (mp_up_n (mp_ne hav__M_7 han__M_7 (by simp))).trans hav__M_7
      have hak__M_7_n : mp_up M_7 an (.inl (k 4, 20, .inr (.inr (.inr (.inr (va_up qn nc (some q))))))) ak = some (.inl (k 0, 4000, .inl (fun i_ => nI (kd i_)))) := (mp_up_n (mp_ne hak__M_7 han__M_7 (by simp))).trans hak__M_7
      have hat__M_7_n : mp_up M_7 an (.inl (k 4, 20, .inr (.inr (.inr (.inr (va_up qn nc (some q))))))) at_ = some (.inl (k 2, 300, .inr (.inr (.inr (.inr qt))))) := (mp_up_n (mp_ne hat__M_7 han__M_7 (by simp))).trans hat__M_7
      have haw__M_7_n : mp_up M_7 an (.inl (k 4, 20, .inr (.inr (.inr (.inr (va_up qn nc (some q))))))) aw = some (.inl (k 0, 12, .inl (fun i_ => nI (wt i_)))) := (mp_up_n (mp_ne haw__M_7 han__M_7 (by simp))).trans haw__M_7
      have has__M_7_n : mp_up M_7 an (.inl (k 4, 20, .inr (.inr (.inr (.inr (va_up qn nc (some q))))))) as_ = some (.inl (k 3, 100, .inr (.inr (.inr (.inr qs))))) := (mp_up_n (mp_ne has__M_7 han__M_7 (by simp))).trans has__M_7
      have hqq__M_7_n : mp_up M_7 an (.inl (k 4, 20, .inr (.inr (.inr (.inr (va_up qn nc (some q))))))) q = some (.inr (3, [.ref r, .int (nI 0)])) := (mp_up_n (mp_ne hqq__M_7 han__M_7 (by simp))).trans hqq__M_7
      have hqr__M_7_n : mp_up M_7 an (.inl (k 4, 20, .inr (.inr (.inr (.inr (va_up qn nc (some q))))))) r = some (.inl (k 1, 4000, .inr (.inl (fun _ => 0)))) := (mp_up_n (mp_ne hqr__M_7 han__M_7 (by simp))).trans hqr__M_7
      generalize eM_10 : mp_up M_7 an (.inl (k 4, 20, .inr (.inr (.inr (.inr (va_up qn nc (some q))))))) = M_9 at I h0__M_7_n hav__M_7_n hak__M_7_n hat__M_7_n haw__M_7_n has__M_7_n han__M_7_n hqq__M_7_n hqr__M_7_n
      have h0__M_9 := h0__M_7_n
      have hav__M_9 := hav__M_7_n
      have hak__M_9 := hak__M_7_n
      have hat__M_9 := hat__M_7_n
      have haw__M_9 := haw__M_7_n
      have has__M_9 := has__M_7_n
      have han__M_9 := han__M_7_n
      have hqq__M_9 := hqq__M_7_n
      have hqr__M_9 := hqr__M_7_n
      clear h0__M_7_n hav__M_7_n hak__M_7_n hat__M_7_n haw__M_7_n has__M_7_n han__M_7_n hqq__M_7_n hqr__M_7_n
      refine lv_aload_n hx hb dD_mark_43 rfl (lv_at hl 0 rfl) ?_
      refine lv_aload_n hx hb dD_mark_44 rfl (lv_at hl 1 rfl) ?_
      refine mp_get (v := .ref av) hx hb hts inD hown I h0__M_9 rfl 0 (by decide) (hts _ bw_26) (fun _ h9 => h9) rfl dD_mark_45 ?_
      refine lv_aload_n hx hb dD_mark_48 rfl (lv_at hl 1 rfl) ?_
      refine mp_get (v := .int (nI ec)) hx hb hts inD hown I h0__M_9 rfl 2 (by decide) (hts _ bw_28) (fun _ h9 => h9) rfl dD_mark_49 ?_
      refine mp_callv (va_runV (As := [.ref av, .int (nI ec)]) (rest := []) ⟨hx, hb, hml, hown, hts⟩ (kN_remember l D k M_9 q av r ec (nI 0) va (fun _ => 0) hqq__M_9 hav__M_9 hqr__M_9 (mp_none_ne hav hrM) (by omega) _) (cwV 2 hts (bw_V bw_191 bw_192 bw_193 bw_11 bw_194) rfl rfl rfl (by decide +kernel) ⟨Nat.le_of_ble_eq_true rfl, Nat.le_of_ble_eq_true rfl⟩) (mp_preV I hqq__M_9 rfl _) rfl rfl hl.1 rfl (lv_room (Nat.le_of_ble_eq_true rfl)) dD_mark_52 ⟨Nat.le_of_ble_eq_true rfl, Nat.le_of_ble_eq_true rfl⟩) I (fun N1 H locs hp I => ?_)
      rw [hp] at I
      have I : mp_I D cls5 (tys6 k) s _ s.heap H locs (mp_up (mp_up M_9 q (.inr (3, [.ref r, .int (nI ec)]))) r (.inl (k 1, 4000, .inr (.inl (va_cpy va (fun _ => 0) 0 0 ec))))) := I
      have hqq__M_9_n : mp_up M_9 q (.inr (3, [.ref r, .int (nI ec)])) q = some (.inr (3, [.ref r, .int (nI ec)])) := mp_up_s _ _ _
      have h0__M_9_n : mp_up M_9 q (.inr (3, [.ref r, .int (nI ec)])) d = some (.inr (0, [.ref av, .ref ak, .int (nI ec), .ref at_, .int (nI tc), .ref aw, .int (nI wc), .ref as_, .int (nI sc), .ref an, .int (nI nc)])) := (mp_up_n (mp_ne h0__M_9 hqq__M_9 (by simp))).trans h0__M_9
      have hav__M_9_n : mp_up M_9 q (.inr (3, [.ref r, .int (nI ec)])) av = some (.inl (k 1, 4000, .inr (.inl va))) := (mp_up_n (mp_ne hav__M_9 hqq__M_9 (by simp))).trans hav__M_9
      have hak__M_9_n : mp_up M_9 q (.inr (3, [.ref r, .int (nI ec)])) ak = some (.inl (k 0, 4000, .inl (fun i_ => nI (kd i_)))) := (mp_up_n (mp_ne hak__M_9 hqq__M_9 (by simp))).trans hak__M_9
      have hat__M_9_n : mp_up M_9 q (.inr (3, [.ref r, .int (nI ec)])) at_ = some (.inl (k 2, 300, .inr (.inr (.inr (.inr qt))))) := (mp_up_n (mp_ne hat__M_9 hqq__M_9 (by simp))).trans hat__M_9
      have haw__M_9_n : mp_up M_9 q (.inr (3, [.ref r, .int (nI ec)])) aw = some (.inl (k 0, 12, .inl (fun i_ => nI (wt i_)))) := (mp_up_n (mp_ne haw__M_9 hqq__M_9 (by simp))).trans haw__M_9
      have has__M_9_n : mp_up M_9 q (.inr (3, [.ref r, .int (nI ec)])) as_ = some (.inl (k 3, 100, .inr (.inr (.inr (.inr qs))))) := (mp_up_n (mp_ne has__M_9 hqq__M_9 (by simp))).trans has__M_9
      have han__M_9_n : mp_up M_9 q (.inr (3, [.ref r, .int (nI ec)])) an = some (.inl (k 4, 20, .inr (.inr (.inr (.inr (va_up qn nc (some q))))))) := (mp_up_n (mp_ne han__M_9 hqq__M_9 (by simp))).trans han__M_9
      have hqr__M_9_n : mp_up M_9 q (.inr (3, [.ref r, .int (nI ec)])) r = some (.inl (k 1, 4000, .inr (.inl (fun _ => 0)))) := (mp_up_n (mp_ne hqr__M_9 hqq__M_9 (by simp))).trans hqr__M_9
      generalize eM_12 : mp_up M_9 q (.inr (3, [.ref r, .int (nI ec)])) = M_11 at I h0__M_9_n hav__M_9_n hak__M_9_n hat__M_9_n haw__M_9_n has__M_9_n han__M_9_n hqq__M_9_n hqr__M_9_n
      have h0__M_11 := h0__M_9_n
      have hav__M_11 := hav__M_9_n
      have hak__M_11 := hak__M_9_n
      have hat__M_11 := hat__M_9_n
      have haw__M_11 := haw__M_9_n
      have has__M_11 := has__M_9_n
      have han__M_11 := han__M_9_n
      have hqq__M_11 := hqq__M_9_n
      have hqr__M_11 := hqr__M_9_n
      clear h0__M_9_n hav__M_9_n hak__M_9_n hat__M_9_n haw__M_9_n has__M_9_n han__M_9_n hqq__M_9_n hqr__M_9_n
      have I : mp_I D cls5 (tys6 k) s _ s.heap H locs (mp_up M_11 r (.inl (k 1, 4000, .inr (.inl (va_cpy va (fun _ => 0) 0 0 ec))))) := I
      have hqr__M_11_n : mp_up M_11 r (.inl (k 1, 4000, .inr (.inl (va_cpy va (fun _ => 0) 0 0 ec)))) r = some (.inl (k 1, 4000, .inr (.inl (va_cpy va (fun _ => 0) 0 0 ec)))) := mp_up_s _ _ _
      have h0__M_11_n : mp_up M_11 r (.inl (k 1, 4000, .inr (.inl (va_cpy va (fun _ => 0) 0 0 ec)))) d = some (.inr (0, [.ref av, .ref ak, .int (nI ec), .ref at_, .int (nI tc), .ref aw, .int (nI wc), .ref as_, .int (nI sc), .ref an, .int (nI nc)])) := (mp_up_n (mp_ne h0__M_11 hqr__M_11 (by simp))).trans h0__M_11
      have hav__M_11_n : mp_up M_11 r (.inl (k 1, 4000, .inr (.inl (va_cpy va (fun _ => 0) 0 0 ec)))) av = some (.inl (k 1, 4000, .inr (.inl va))) := (mp_up_n (Ne.symm (Ne.symm (mp_none_ne hav hrM)))).trans hav__M_11
      have hak__M_11_n : mp_up M_11 r (.inl (k 1, 4000, .inr (.inl (va_cpy va (fun _ => 0) 0 0 ec)))) ak = some (.inl (k 0, 4000, .inl (fun i_ => nI (kd i_)))) := (mp_up_n (mp_ne hak__M_11 hqr__M_11 (by simp))).trans hak__M_11
      have hat__M_11_n : mp_up M_11 r (.inl (k 1, 4000, .inr (.inl (va_cpy va (fun _ => 0) 0 0 ec)))) at_ = some (.inl (k 2, 300, .inr (.inr (.inr (.inr qt))))) := (mp_up_n (mp_ne hat__M_11 hqr__M_11 (by simp))).trans hat__M_11
      have haw__M_11_n : mp_up M_11 r (.inl (k 1, 4000, .inr (.inl (va_cpy va (fun _ => 0) 0 0 ec)))) aw = some (.inl (k 0, 12, .inl (fun i_ => nI (wt i_)))) := (mp_up_n (mp_ne haw__M_11 hqr__M_11 (by simp))).trans haw__M_11
      have has__M_11_n : mp_up M_11 r (.inl (k 1, 4000, .inr (.inl (va_cpy va (fun _ => 0) 0 0 ec)))) as_ = some (.inl (k 3, 100, .inr (.inr (.inr (.inr qs))))) := (mp_up_n (mp_ne has__M_11 hqr__M_11 (by simp))).trans has__M_11
      have han__M_11_n : mp_up M_11 r (.inl (k 1, 4000, .inr (.inl (va_cpy va (fun _ => 0) 0 0 ec)))) an = some (.inl (k 4, 20, .inr (.inr (.inr (.inr (va_up qn nc (some q))))))) := (mp_up_n (mp_ne han__M_11 hqr__M_11 (by simp))).trans han__M_11
      have hqq__M_11_n : mp_up M_11 r (.inl (k 1, 4000, .inr (.inl (va_cpy va (fun _ => 0) 0 0 ec)))) q = some (.inr (3, [.ref r, .int (nI ec)])) := (mp_up_n (mp_ne hqq__M_11 hqr__M_11 (by simp))).trans hqq__M_11
      generalize eM_14 : mp_up M_11 r (.inl (k 1, 4000, .inr (.inl (va_cpy va (fun _ => 0) 0 0 ec)))) = M_13 at I h0__M_11_n hav__M_11_n hak__M_11_n hat__M_11_n haw__M_11_n has__M_11_n han__M_11_n hqq__M_11_n hqr__M_11_n
      have h0__M_13 := h0__M_11_n
      have hav__M_13 := hav__M_11_n
      have hak__M_13 := hak__M_11_n
      have hat__M_13 := hat__M_11_n
      have haw__M_13 := haw__M_11_n
      have has__M_13 := has__M_11_n
      have han__M_13 := han__M_11_n
      have hqq__M_13 := hqq__M_11_n
      have hqr__M_13 := hqr__M_11_n
      clear h0__M_11_n hav__M_11_n hak__M_11_n hat__M_11_n haw__M_11_n has__M_11_n han__M_11_n hqq__M_11_n hqr__M_11_n
      refine lv_aload_n hx hb dD_mark_55 rfl (lv_at hl 1 rfl) ?_
      refine lv_dup hx hb dD_mark_56 rfl ?_
      refine mp_get (v := .int (nI nc)) hx hb hts inD hown I h0__M_13 rfl 10 (by decide) (hts _ bw_36) (fun _ h9 => h9) rfl dD_mark_57 ?_
      refine lv_iconst (v := nI 1) hx hb dD_mark_60 (by decide) ?_
      refine zz_iadd hx hb dD_mark_61 ?_
      refine mp_put (v := .int (nI (nc + 1))) (ty := .int) hx hb hts inD tyD okD nmD hown I h0__M_13 rfl 10 (by decide) (hts _ bw_36) (fun _ h9 => h9) rfl (by decide +kernel) rfl rfl (Nat.le_of_ble_eq_true rfl) dD_mark_62 (fun H locs I => ?_)
      have I : mp_I D cls5 (tys6 k) s _ s.heap H locs (mp_up M_13 d (.inr (0, [.ref av, .ref ak, .int (nI ec), .ref at_, .int (nI tc), .ref aw, .int (nI wc), .ref as_, .int (nI sc), .ref an, .int (nI (nc + 1))]))) := I
      have h0__M_13_n : mp_up M_13 d (.inr (0, [.ref av, .ref ak, .int (nI ec), .ref at_, .int (nI tc), .ref aw, .int (nI wc), .ref as_, .int (nI sc), .ref an, .int (nI (nc + 1))])) d = some (.inr (0, [.ref av, .ref ak, .int (nI ec), .ref at_, .int (nI tc), .ref aw, .int (nI wc), .ref as_, .int (nI sc), .ref an, .int (nI (nc + 1))])) := mp_up_s _ _ _
      have hav__M_13_n : mp_up M_13 d (.inr (0, [.ref av, .ref ak, .int (nI ec), .ref at_, .int (nI tc), .ref aw, .int (nI wc), .ref as_, .int (nI sc), .ref an, .int (nI (nc + 1))])) av = some (.inl (k 1, 4000, .inr (.inl va))) := (mp_up_n (mp_ne hav__M_13 h0__M_13 (by simp))).trans hav__M_13
      have hak__M_13_n : mp_up M_13 d (.inr (0, [.ref av, .ref ak, .int (nI ec), .ref at_, .int (nI tc), .ref aw, .int (nI wc), .ref as_, .int (nI sc), .ref an, .int (nI (nc + 1))])) ak = some (.inl (k 0, 4000, .inl (fun i_ => nI (kd i_)))) := (mp_up_n (mp_ne hak__M_13 h0__M_13 (by simp))).trans hak__M_13
      have hat__M_13_n : mp_up M_13 d (.inr (0, [.ref av, .ref ak, .int (nI ec), .ref at_, .int (nI tc), .ref aw, .int (nI wc), .ref as_, .int (nI sc), .ref an, .int (nI (nc + 1))])) at_ = some (.inl (k 2, 300, .inr (.inr (.inr (.inr qt))))) := (mp_up_n (mp_ne hat__M_13 h0__M_13 (by simp))).trans hat__M_13
      have haw__M_13_n : mp_up M_13 d (.inr (0, [.ref av, .ref ak, .int (nI ec), .ref at_, .int (nI tc), .ref aw, .int (nI wc), .ref as_, .int (nI sc), .ref an, .int (nI (nc + 1))])) aw = some (.inl (k 0, 12, .inl (fun i_ => nI (wt i_)))) := (mp_up_n (mp_ne haw__M_13 h0__M_13 (by simp))).trans haw__M_13
      have has__M_13_n : mp_up M_13 d (.inr (0, [.ref av, .ref ak, .int (nI ec), .ref at_, .int (nI tc), .ref aw, .int (nI wc), .ref as_, .int (nI sc), .ref an, .int (nI (nc + 1))])) as_ = some (.inl (k 3, 100, .inr (.inr (.inr (.inr qs))))) := (mp_up_n (mp_ne has__M_13 h0__M_13 (by simp))).trans has__M_13
      have han__M_13_n : mp_up M_13 d (.inr (0, [.ref av, .ref ak, .int (nI ec), .ref at_, .int (nI tc), .ref aw, .int (nI wc), .ref as_, .int (nI sc), .ref an, .int (nI (nc + 1))])) an = some (.inl (k 4, 20, .inr (.inr (.inr (.inr (va_up qn nc (some q))))))) := (mp_up_n (mp_ne han__M_13 h0__M_13 (by simp))).trans han__M_13
      have hqq__M_13_n : mp_up M_13 d (.inr (0, [.ref av, .ref ak, .int (nI ec), .ref at_, .int (nI tc), .ref aw, .int (nI wc), .ref as_, .int (nI sc), .ref an, .int (nI (nc + 1))])) q = some (.inr (3, [.ref r, .int (nI ec)])) := (mp_up_n (mp_ne hqq__M_13 h0__M_13 (by simp))).trans hqq__M_13
      have hqr__M_13_n : mp_up M_13 d (.inr (0, [.ref av, .ref ak, .int (nI ec), .ref at_, .int (nI tc), .ref aw, .int (nI wc), .ref as_, .int (nI sc), .ref an, .int (nI (nc + 1))])) r = some (.inl (k 1, 4000, .inr (.inl (va_cpy va (fun _ => 0) 0 0 ec)))) := (mp_up_n (mp_ne hqr__M_13 h0__M_13 (by simp))).trans hqr__M_13
      generalize eM_16 : mp_up M_13 d (.inr (0, [.ref av, .ref ak, .int (nI ec), .ref at_, .int (nI tc), .ref aw, .int (nI wc), .ref as_, .int (nI sc), .ref an, .int (nI (nc + 1))])) = M_15 at I h0__M_13_n hav__M_13_n hak__M_13_n hat__M_13_n haw__M_13_n has__M_13_n han__M_13_n hqq__M_13_n hqr__M_13_n
      have h0__M_15 := h0__M_13_n
      have hav__M_15 := hav__M_13_n
      have hak__M_15 := hak__M_13_n
      have hat__M_15 := hat__M_13_n
      have haw__M_15 := haw__M_13_n
      have has__M_15 := has__M_13_n
      have han__M_15 := han__M_13_n
      have hqq__M_15 := hqq__M_13_n
      have hqr__M_15 := hqr__M_13_n
      clear h0__M_13_n hav__M_13_n hak__M_13_n hat__M_13_n haw__M_13_n has__M_13_n han__M_13_n hqq__M_13_n hqr__M_13_n
      refine lv_aload_n hx hb dD_mark_65 rfl (lv_at hl 1 rfl) ?_
      refine mp_get (v := .int (nI (nc + 1))) hx hb hts inD hown I h0__M_15 rfl 10 (by decide) (hts _ bw_36) (fun _ h9 => h9) rfl dD_mark_66 ?_
      refine lv_iconst (v := nI 1) hx hb dD_mark_69 (by decide) ?_
      refine zz_isub hx hb (by omega) dD_mark_70 ?_
      have hF : ∀ b : Nat, b ≠ q → b ≠ r → b ≠ an → b ≠ d → M_15 b = M b := by
        intro b gq gr ga gd
        rw [← eM_16, mp_up_n gd, ← eM_14, mp_up_n gr, ← eM_12, mp_up_n gq, ← eM_10, mp_up_n ga, ← eM_8, mp_up_n gq, ← eM_6, mp_up_n gr, ← eM_4, mp_up_n gq]
      have hF2 : ∀ (b : Nat) (x : va_E), M b = some x → b ≠ an → b ≠ d → M_15 b = M b := fun b x hx h1 h2 => hF b (mp_none_ne hx hq0) (mp_none_ne hx hrM) h1 h2
      have hD := hD.mark M_15 q r (va_up qn nc (some q)) (va_cpy va (fun _ => 0) 0 0 ec) (by omega) (by omega) h0__M_15 (hav__M_15.trans hav.symm) (hak__M_15.trans hak.symm) (hat__M_15.trans hat.symm) (haw__M_15.trans haw.symm) (has__M_15.trans has.symm) han__M_15 (fun i a hi h1 => by obtain ⟨a2, z1, z2⟩ := hth i hi; cases h1.symm.trans z1; exact hF2 _ _ z2 (mp_ne z2 han (by simp)) (mp_ne z2 h0 (by simp))) (fun i a hi h1 => by obtain ⟨a2, z1, z2⟩ := hsp i hi; cases h1.symm.trans z1; exact hF2 _ _ z2 (mp_ne z2 han (by simp)) (mp_ne z2 h0 (by simp))) (fun i hi e hn => by rcases hsn i hi with ⟨z1, z2⟩ | ⟨z1, z2, cn, g, z3, z4, z5⟩; exact absurd z1 hn; exact ⟨hF2 _ _ z3 (mp_ne z3 han (by simp)) (mp_ne z3 h0 (by simp)), hF2 _ _ z4 (mp_ne z4 han (by simp)) (mp_ne z4 h0 (by simp))⟩) hqq__M_15 hqr__M_15 (fun j hj => by rw [pk_cpy_in (by omega) (by omega)]; simp) (Ne.symm (mp_none_ne hav hrM)) (va_up_self _ _ _) (fun i e => va_up_ne _ _ e) (fun i hi e hn => by rcases hsn i hi with ⟨z1, z2⟩ | ⟨z1, z2, cn, g, z3, z4, z5⟩; exact absurd z1 hn; exact ⟨mp_none_ne z3 hq0, mp_none_ne z4 hrM⟩)
      exact mp_iret hx hb hr hlocks I (Nat.le_of_ble_eq_true rfl) (Nat.le_of_ble_eq_true rfl) dD_mark_71 (Or.inl ⟨by omega, rfl, _, _, _, hD⟩)
    · refine lv_aload_n hx hb dD_mark_11 rfl (lv_at hl 0 rfl) ?_
      refine mp_get (v := .ref an) hx hb hts inD hown I h0 rfl 9 (by decide) (hts _ bw_35) (fun _ h9 => h9) rfl dD_mark_12 ?_
      refine lv_aload_n hx hb dD_mark_15 rfl (lv_at hl 0 rfl) ?_
      refine mp_get (v := .int (nI nc)) hx hb hts inD hown I h0 rfl 10 (by decide) (hts _ bw_36) (fun _ h9 => h9) rfl dD_mark_16 ?_
      refine mp_aald hx hb I 4 han rfl nc rfl (by omega) (by decide) (v := .ref (sa nc)) (by rw [hqn]; rfl) dD_mark_19 ?_
      refine lv_astore_n (lv' := [(1, .ref (sa nc)), (0, .ref d)]) hx hb dD_mark_20 rfl hl (by decide) rfl (fun ls hl => ?_)
      refine lv_aload_n hx hb dD_mark_21 rfl (lv_at hl 0 rfl) ?_
      refine lv_ifnonnull (tgt := 43) hx hb dD_mark_22 (by decide) ?_
      refine lv_aload_n hx hb dD_mark_43 rfl (lv_at hl 0 rfl) ?_
      refine lv_aload_n hx hb dD_mark_44 rfl (lv_at hl 1 rfl) ?_
      refine mp_get (v := .ref av) hx hb hts inD hown I h0 rfl 0 (by decide) (hts _ bw_26) (fun _ h9 => h9) rfl dD_mark_45 ?_
      refine lv_aload_n hx hb dD_mark_48 rfl (lv_at hl 1 rfl) ?_
      refine mp_get (v := .int (nI ec)) hx hb hts inD hown I h0 rfl 2 (by decide) (hts _ bw_28) (fun _ h9 => h9) rfl dD_mark_49 ?_
      refine mp_callv (va_runV (As := [.ref av, .int (nI ec)]) (rest := []) ⟨hx, hb, hml, hown, hts⟩ (kN_remember l D k M (sa nc) av (ra nc) ec (nI cn) va g hsa hav hrr (Ne.symm hra) (by omega) _) (cwV 2 hts (bw_V bw_191 bw_192 bw_193 bw_11 bw_194) rfl rfl rfl (by decide +kernel) ⟨Nat.le_of_ble_eq_true rfl, Nat.le_of_ble_eq_true rfl⟩) (mp_preV I hsa rfl _) rfl rfl hl.1 rfl (lv_room (Nat.le_of_ble_eq_true rfl)) dD_mark_52 ⟨Nat.le_of_ble_eq_true rfl, Nat.le_of_ble_eq_true rfl⟩) I (fun N1 H locs hp I => ?_)
      rw [hp] at I
      have I : mp_I D cls5 (tys6 k) s _ s.heap H locs (mp_up (mp_up M (sa nc) (.inr (3, [.ref (ra nc), .int (nI ec)]))) (ra nc) (.inl (k 1, 4000, .inr (.inl (va_cpy va g 0 0 ec))))) := I
      have hsa_n : mp_up M (sa nc) (.inr (3, [.ref (ra nc), .int (nI ec)])) (sa nc) = some (.inr (3, [.ref (ra nc), .int (nI ec)])) := mp_up_s _ _ _
      have h0_n : mp_up M (sa nc) (.inr (3, [.ref (ra nc), .int (nI ec)])) d = some (.inr (0, [.ref av, .ref ak, .int (nI ec), .ref at_, .int (nI tc), .ref aw, .int (nI wc), .ref as_, .int (nI sc), .ref an, .int (nI nc)])) := (mp_up_n (mp_ne h0 hsa (by simp))).trans h0
      have hav_n : mp_up M (sa nc) (.inr (3, [.ref (ra nc), .int (nI ec)])) av = some (.inl (k 1, 4000, .inr (.inl va))) := (mp_up_n (mp_ne hav hsa (by simp))).trans hav
      have hak_n : mp_up M (sa nc) (.inr (3, [.ref (ra nc), .int (nI ec)])) ak = some (.inl (k 0, 4000, .inl (fun i_ => nI (kd i_)))) := (mp_up_n (mp_ne hak hsa (by simp))).trans hak
      have hat_n : mp_up M (sa nc) (.inr (3, [.ref (ra nc), .int (nI ec)])) at_ = some (.inl (k 2, 300, .inr (.inr (.inr (.inr qt))))) := (mp_up_n (mp_ne hat hsa (by simp))).trans hat
      have haw_n : mp_up M (sa nc) (.inr (3, [.ref (ra nc), .int (nI ec)])) aw = some (.inl (k 0, 12, .inl (fun i_ => nI (wt i_)))) := (mp_up_n (mp_ne haw hsa (by simp))).trans haw
      have has_n : mp_up M (sa nc) (.inr (3, [.ref (ra nc), .int (nI ec)])) as_ = some (.inl (k 3, 100, .inr (.inr (.inr (.inr qs))))) := (mp_up_n (mp_ne has hsa (by simp))).trans has
      have han_n : mp_up M (sa nc) (.inr (3, [.ref (ra nc), .int (nI ec)])) an = some (.inl (k 4, 20, .inr (.inr (.inr (.inr qn))))) := (mp_up_n (mp_ne han hsa (by simp))).trans han
      have hrr_n : mp_up M (sa nc) (.inr (3, [.ref (ra nc), .int (nI ec)])) (ra nc) = some (.inl (k 1, 4000, .inr (.inl g))) := (mp_up_n (mp_ne hrr hsa (by simp))).trans hrr
      generalize eM_18 : mp_up M (sa nc) (.inr (3, [.ref (ra nc), .int (nI ec)])) = M_17 at I h0_n hav_n hak_n hat_n haw_n has_n han_n hsa_n hrr_n
      have h0__M_17 := h0_n
      have hav__M_17 := hav_n
      have hak__M_17 := hak_n
      have hat__M_17 := hat_n
      have haw__M_17 := haw_n
      have has__M_17 := has_n
      have han__M_17 := han_n
      have hsa__M_17 := hsa_n
      have hrr__M_17 := hrr_n
      clear h0_n hav_n hak_n hat_n haw_n has_n han_n hsa_n hrr_n
      have I : mp_I D cls5 (tys6 k) s _ s.heap H locs (mp_up M_17 (ra nc) (.inl (k 1, 4000, .inr (.inl (va_cpy va g 0 0 ec))))) := I
      have hrr__M_17_n : mp_up M_17 (ra nc) (.inl (k 1, 4000, .inr (.inl (va_cpy va g 0 0 ec)))) (ra nc) = some (.inl (k 1, 4000, .inr (.inl (va_cpy va g 0 0 ec)))) := mp_up_s _ _ _
      have h0__M_17_n : mp_up M_17 (ra nc) (.inl (k 1, 4000, .inr (.inl (va_cpy va g 0 0 ec)))) d = some (.inr (0, [.ref av, .ref ak, .int (nI ec), .ref at_, .int (nI tc), .ref aw, .int (nI wc), .ref as_, .int (nI sc), .ref an, .int (nI nc)])) := (mp_up_n (mp_ne h0__M_17 hrr__M_17 (by simp))).trans h0__M_17
      have hav__M_17_n : mp_up M_17 (ra nc) (.inl (k 1, 4000, .inr (.inl (va_cpy va g 0 0 ec)))) av = some (.inl (k 1, 4000, .inr (.inl va))) := (mp_up_n (Ne.symm hra)).trans hav__M_17
      have hak__M_17_n : mp_up M_17 (ra nc) (.inl (k 1, 4000, .inr (.inl (va_cpy va g 0 0 ec)))) ak = some (.inl (k 0, 4000, .inl (fun i_ => nI (kd i_)))) := (mp_up_n (mp_ne hak__M_17 hrr__M_17 (by simp))).trans hak__M_17
      have hat__M_17_n : mp_up M_17 (ra nc) (.inl (k 1, 4000, .inr (.inl (va_cpy va g 0 0 ec)))) at_ = some (.inl (k 2, 300, .inr (.inr (.inr (.inr qt))))) := (mp_up_n (mp_ne hat__M_17 hrr__M_17 (by simp))).trans hat__M_17
      have haw__M_17_n : mp_up M_17 (ra nc) (.inl (k 1, 4000, .inr (.inl (va_cpy va g 0 0 ec)))) aw = some (.inl (k 0, 12, .inl (fun i_ => nI (wt i_)))) := (mp_up_n (mp_ne haw__M_17 hrr__M_17 (by simp))).trans haw__M_17
      have has__M_17_n : mp_up M_17 (ra nc) (.inl (k 1, 4000, .inr (.inl (va_cpy va g 0 0 ec)))) as_ = some (.inl (k 3, 100, .inr (.inr (.inr (.inr qs))))) := (mp_up_n (mp_ne has__M_17 hrr__M_17 (by simp))).trans has__M_17
      have han__M_17_n : mp_up M_17 (ra nc) (.inl (k 1, 4000, .inr (.inl (va_cpy va g 0 0 ec)))) an = some (.inl (k 4, 20, .inr (.inr (.inr (.inr qn))))) := (mp_up_n (mp_ne han__M_17 hrr__M_17 (by simp))).trans han__M_17
      have hsa__M_17_n : mp_up M_17 (ra nc) (.inl (k 1, 4000, .inr (.inl (va_cpy va g 0 0 ec)))) (sa nc) = some (.inr (3, [.ref (ra nc), .int (nI ec)])) := (mp_up_n (mp_ne hsa__M_17 hrr__M_17 (by simp))).trans hsa__M_17
      generalize eM_20 : mp_up M_17 (ra nc) (.inl (k 1, 4000, .inr (.inl (va_cpy va g 0 0 ec)))) = M_19 at I h0__M_17_n hav__M_17_n hak__M_17_n hat__M_17_n haw__M_17_n has__M_17_n han__M_17_n hsa__M_17_n hrr__M_17_n
      have h0__M_19 := h0__M_17_n
      have hav__M_19 := hav__M_17_n
      have hak__M_19 := hak__M_17_n
      have hat__M_19 := hat__M_17_n
      have haw__M_19 := haw__M_17_n
      have has__M_19 := has__M_17_n
      have han__M_19 := han__M_17_n
      have hsa__M_19 := hsa__M_17_n
      have hrr__M_19 := hrr__M_17_n
      clear h0__M_17_n hav__M_17_n hak__M_17_n hat__M_17_n haw__M_17_n has__M_17_n han__M_17_n hsa__M_17_n hrr__M_17_n
      refine lv_aload_n hx hb dD_mark_55 rfl (lv_at hl 1 rfl) ?_
      refine lv_dup hx hb dD_mark_56 rfl ?_
      refine mp_get (v := .int (nI nc)) hx hb hts inD hown I h0__M_19 rfl 10 (by decide) (hts _ bw_36) (fun _ h9 => h9) rfl dD_mark_57 ?_
      refine lv_iconst (v := nI 1) hx hb dD_mark_60 (by decide) ?_
      refine zz_iadd hx hb dD_mark_61 ?_
      refine mp_put (v := .int (nI (nc + 1))) (ty := .int) hx hb hts inD tyD okD nmD hown I h0__M_19 rfl 10 (by decide) (hts _ bw_36) (fun _ h9 => h9) rfl (by decide +kernel) rfl rfl (Nat.le_of_ble_eq_true rfl) dD_mark_62 (fun H locs I => ?_)
      have I : mp_I D cls5 (tys6 k) s _ s.heap H locs (mp_up M_19 d (.inr (0, [.ref av, .ref ak, .int (nI ec), .ref at_, .int (nI tc), .ref aw, .int (nI wc), .ref as_, .int (nI sc), .ref an, .int (nI (nc + 1))]))) := I
      have h0__M_19_n : mp_up M_19 d (.inr (0, [.ref av, .ref ak, .int (nI ec), .ref at_, .int (nI tc), .ref aw, .int (nI wc), .ref as_, .int (nI sc), .ref an, .int (nI (nc + 1))])) d = some (.inr (0, [.ref av, .ref ak, .int (nI ec), .ref at_, .int (nI tc), .ref aw, .int (nI wc), .ref as_, .int (nI sc), .ref an, .int (nI (nc + 1))])) := mp_up_s _ _ _
      have hav__M_19_n : mp_up M_19 d (.inr (0, [.ref av, .ref ak, .int (nI ec), .ref at_, .int (nI tc), .ref aw, .int (nI wc), .ref as_, .int (nI sc), .ref an, .int (nI (nc + 1))])) av = some (.inl (k 1, 4000, .inr (.inl va))) := (mp_up_n (mp_ne hav__M_19 h0__M_19 (by simp))).trans hav__M_19
      have hak__M_19_n : mp_up M_19 d (.inr (0, [.ref av, .ref ak, .int (nI ec), .ref at_, .int (nI tc), .ref aw, .int (nI wc), .ref as_, .int (nI sc), .ref an, .int (nI (nc + 1))])) ak = some (.inl (k 0, 4000, .inl (fun i_ => nI (kd i_)))) := (mp_up_n (mp_ne hak__M_19 h0__M_19 (by simp))).trans hak__M_19
      have hat__M_19_n : mp_up M_19 d (.inr (0, [.ref av, .ref ak, .int (nI ec), .ref at_, .int (nI tc), .ref aw, .int (nI wc), .ref as_, .int (nI sc), .ref an, .int (nI (nc + 1))])) at_ = some (.inl (k 2, 300, .inr (.inr (.inr (.inr qt))))) := (mp_up_n (mp_ne hat__M_19 h0__M_19 (by simp))).trans hat__M_19
      have haw__M_19_n : mp_up M_19 d (.inr (0, [.ref av, .ref ak, .int (nI ec), .ref at_, .int (nI tc), .ref aw, .int (nI wc), .ref as_, .int (nI sc), .ref an, .int (nI (nc + 1))])) aw = some (.inl (k 0, 12, .inl (fun i_ => nI (wt i_)))) := (mp_up_n (mp_ne haw__M_19 h0__M_19 (by simp))).trans haw__M_19
      have has__M_19_n : mp_up M_19 d (.inr (0, [.ref av, .ref ak, .int (nI ec), .ref at_, .int (nI tc), .ref aw, .int (nI wc), .ref as_, .int (nI sc), .ref an, .int (nI (nc + 1))])) as_ = some (.inl (k 3, 100, .inr (.inr (.inr (.inr qs))))) := (mp_up_n (mp_ne has__M_19 h0__M_19 (by simp))).trans has__M_19
      have han__M_19_n : mp_up M_19 d (.inr (0, [.ref av, .ref ak, .int (nI ec), .ref at_, .int (nI tc), .ref aw, .int (nI wc), .ref as_, .int (nI sc), .ref an, .int (nI (nc + 1))])) an = some (.inl (k 4, 20, .inr (.inr (.inr (.inr qn))))) := (mp_up_n (mp_ne han__M_19 h0__M_19 (by simp))).trans han__M_19
      have hsa__M_19_n : mp_up M_19 d (.inr (0, [.ref av, .ref ak, .int (nI ec), .ref at_, .int (nI tc), .ref aw, .int (nI wc), .ref as_, .int (nI sc), .ref an, .int (nI (nc + 1))])) (sa nc) = some (.inr (3, [.ref (ra nc), .int (nI ec)])) := (mp_up_n (mp_ne hsa__M_19 h0__M_19 (by simp))).trans hsa__M_19
      have hrr__M_19_n : mp_up M_19 d (.inr (0, [.ref av, .ref ak, .int (nI ec), .ref at_, .int (nI tc), .ref aw, .int (nI wc), .ref as_, .int (nI sc), .ref an, .int (nI (nc + 1))])) (ra nc) = some (.inl (k 1, 4000, .inr (.inl (va_cpy va g 0 0 ec)))) := (mp_up_n (mp_ne hrr__M_19 h0__M_19 (by simp))).trans hrr__M_19
      generalize eM_22 : mp_up M_19 d (.inr (0, [.ref av, .ref ak, .int (nI ec), .ref at_, .int (nI tc), .ref aw, .int (nI wc), .ref as_, .int (nI sc), .ref an, .int (nI (nc + 1))])) = M_21 at I h0__M_19_n hav__M_19_n hak__M_19_n hat__M_19_n haw__M_19_n has__M_19_n han__M_19_n hsa__M_19_n hrr__M_19_n
      have h0__M_21 := h0__M_19_n
      have hav__M_21 := hav__M_19_n
      have hak__M_21 := hak__M_19_n
      have hat__M_21 := hat__M_19_n
      have haw__M_21 := haw__M_19_n
      have has__M_21 := has__M_19_n
      have han__M_21 := han__M_19_n
      have hsa__M_21 := hsa__M_19_n
      have hrr__M_21 := hrr__M_19_n
      clear h0__M_19_n hav__M_19_n hak__M_19_n hat__M_19_n haw__M_19_n has__M_19_n han__M_19_n hsa__M_19_n hrr__M_19_n
      refine lv_aload_n hx hb dD_mark_65 rfl (lv_at hl 1 rfl) ?_
      refine mp_get (v := .int (nI (nc + 1))) hx hb hts inD hown I h0__M_21 rfl 10 (by decide) (hts _ bw_36) (fun _ h9 => h9) rfl dD_mark_66 ?_
      refine lv_iconst (v := nI 1) hx hb dD_mark_69 (by decide) ?_
      refine zz_isub hx hb (by omega) dD_mark_70 ?_
      have hF : ∀ b : Nat, b ≠ sa nc → b ≠ ra nc → b ≠ d → M_21 b = M b := by
        intro b gq gr gd
        rw [← eM_22, mp_up_n gd, ← eM_20, mp_up_n gr, ← eM_18, mp_up_n gq]
      have hF2 : ∀ (b : Nat) (x : va_E), M b = some x → b ≠ sa nc → b ≠ ra nc → b ≠ d → M_21 b = M b := fun b x hx h1 h2 h3 => hF b h1 h2 h3
      have hD := hD.mark M_21 (sa nc) (ra nc) qn (va_cpy va g 0 0 ec) (by omega) (by omega) h0__M_21 (hav__M_21.trans hav.symm) (hak__M_21.trans hak.symm) (hat__M_21.trans hat.symm) (haw__M_21.trans haw.symm) (has__M_21.trans has.symm) han__M_21 (fun i a hi h1 => by obtain ⟨a2, z1, z2⟩ := hth i hi; cases h1.symm.trans z1; exact hF2 _ _ z2 (mp_ne z2 hsa (by simp)) (mp_ne z2 hrr (by simp)) (mp_ne z2 h0 (by simp))) (fun i a hi h1 => by obtain ⟨a2, z1, z2⟩ := hsp i hi; cases h1.symm.trans z1; exact hF2 _ _ z2 (mp_ne z2 hsa (by simp)) (mp_ne z2 hrr (by simp)) (mp_ne z2 h0 (by simp))) (fun i hi e hn => by rcases hsn i hi with ⟨z1, z2⟩ | ⟨z1, z2, cn, g, z3, z4, z5⟩; exact absurd z1 hn; exact ⟨hF _ (hij i nc hi (by omega) hn (by rw [hqn]; simp) e).1 (mp_ne z3 hrr (by simp)) (mp_ne z3 h0 (by simp)), hF _ (mp_ne z4 hsa (by simp)) (hij i nc hi (by omega) hn (by rw [hqn]; simp) e).2 (mp_ne z4 h0 (by simp))⟩) hsa__M_21 hrr__M_21 (fun j hj => by rw [pk_cpy_in (by omega) (by omega)]; simp) hra hqn (fun i e => rfl) (fun i hi e hn => hij i nc hi (by omega) hn (by rw [hqn]; simp) e)
      exact mp_iret hx hb hr hlocks I (Nat.le_of_ble_eq_true rfl) (Nat.le_of_ble_eq_true rfl) dD_mark_71 (Or.inl ⟨by omega, rfl, _, _, _, hD⟩)
  · refine lv_iconst (v := (-1)) hx hb dD_mark_9 (by decide) ?_
    exact mp_iret hx hb hr hlocks I (Nat.le_of_ble_eq_true rfl) (Nat.le_of_ble_eq_true rfl) dD_mark_10 (Or.inr ⟨by omega, rfl, rfl⟩)
/-- values gone back to -/
def vbk (va f : Nat → Int64) (n : Nat) : Nat → Int64 := fun j => if j < n then f j else va j
theorem vbk_cpy {va f g : Nat → Int64} {n : Nat} (h : ∀ j, j < n → g j = f j) : va_cpy g va 0 0 n = vbk va f n := by
  funext j
  unfold va_cpy vbk
  by_cases hj : j < n
  · rw [if_pos (by omega), if_pos hj, show 0 + (j - 0) = j by omega]
    exact h j hj
  · rw [if_neg (by omega), if_neg hj]
theorem dif_congr {va f g : Nat → Int64} : ∀ {n : Nat}, (∀ j, j < n → g j = f j) → dif va g n = dif va f n
  | 0, _ => rfl
  | n + 1, h => by
    show dif va g n + _ = dif va f n + _
    rw [dif_congr (fun j hj => h j (by omega)), h n (by omega)]
abbrev rm_D_back : Room := { frames := 2, cells := 0, slots := 0, locals := 90 }
set_option maxHeartbeats 4000000 in
set_option maxRecDepth 100000 in
theorem kD_back (l : Launch) (D : va_G) (k : Nat → ClassId) (M : mp_M) {d av ak at_ aw as_ an : Nat} {qt qs qn : Nat → Option Nat} {sa ra : Nat → Nat} {ec tc wc sc nc : Nat} {va : Nat → Int64} {kd wt tk tf tz sk sf sw sl nn : Nat → Nat} {nv : Nat → Nat → Int64} (hD : DkX k M d av ak at_ aw as_ an qt qs qn sa ra ec tc wc sc nc va kd wt tk tf tz sk sf sw sl nn nv) (hO : OkB ec tc wc sc nc tk tf tz sk sf sw sl nn) (x : Int32) : mp_Met l yD_back (Cond.code yD_back cD_back 4 (some .int) :: bw) rm_D_back D cls5 (tys6 k) [.ref d, .int x] M (va_Qi (fun r M1 => ((0 ≤ x.toInt ∧ x.toInt < nc) ∧ ∃ i : Nat, x.toInt = i ∧ r = nI (dif va (nv i) (nn i)) ∧ DkX k M1 d av ak at_ aw as_ an qt qs qn sa ra ec tc wc sc (i + 1) (vbk va (nv i) (nn i)) kd wt tk tf tz sk sf sw sl nn nv) ∨ (¬ (0 ≤ x.toInt ∧ x.toInt < nc) ∧ r = -1 ∧ M1 = M))) 0 0 := by
  refine mp_Met.of (by decide) (Nat.le_of_ble_eq_true rfl) ?_
  intro p e s m below meth c hx hb hr hml hown hts hlocks hin ls hl I
  have hl : lv_has ls 4 [(0, .ref d), (1, .int x)] := hl
  obtain ⟨h0, hav, hak, hat, haw, has, han, hth, hsp, hsn, hij⟩ := id hD
  obtain ⟨b1, b2, b3, b4, b5, bT, bS, bN⟩ := id hO
  refine lv_aload_n hx hb dD_back_0 rfl (lv_at hl 0 rfl) ?_
  refine lv_iload_n hx hb dD_back_1 rfl (lv_at hl 1 rfl) ?_
  refine mp_callq (va_runV (As := [.int x]) (rest := []) ⟨hx, hb, hml, hown, hts⟩ (kD_findSnapshot l D k M hD hO x _) (cwV 1 hts (bw_V bw_200 bw_202 bs_5 bw_1 bw_203) rfl rfl rfl (by decide +kernel) ⟨Nat.le_of_ble_eq_true rfl, Nat.le_of_ble_eq_true rfl⟩) (mp_preV I h0 rfl _) rfl rfl hl.1 rfl (lv_room (Nat.le_of_ble_eq_true rfl)) dD_back_2 ⟨Nat.le_of_ble_eq_true rfl, Nat.le_of_ble_eq_true rfl⟩) I (fun r_1 N1 H locs hp I => ?_)
  obtain ⟨e_2, hp⟩ := hp
  rw [e_2] at I
  rcases hp with ⟨i, a, hii, hzi, rfl, rfl, hra, g, hsa, hrr, hcn, hg⟩ | ⟨pni, rfl⟩
  · dsimp only [va_rf]
    have hxi : x.toInt.toNat = i := by omega
    obtain ⟨xn, hxn, rfl, hz_xn⟩ := i32_nat (x := x) (by omega)
    obtain rfl : i = xn := by omega
    refine lv_astore_n (lv' := [(2, .ref (sa i)), (0, .ref d), (1, .int (nI i))]) hx hb dD_back_5 rfl hl (by decide) rfl (fun ls hl => ?_)
    refine lv_aload_n hx hb dD_back_6 rfl (lv_at hl 0 rfl) ?_
    refine lv_ifnonnull (tgt := 12) hx hb dD_back_7 (by decide) ?_
    refine lv_aload_n hx hb dD_back_12 rfl (lv_at hl 0 rfl) ?_
    refine lv_aload_n hx hb dD_back_13 rfl (lv_at hl 1 rfl) ?_
    refine mp_get (v := .ref av) hx hb hts inD hown I h0 rfl 0 (by decide) (hts _ bw_26) (fun _ h9 => h9) rfl dD_back_14 ?_
    refine mp_calli (va_runV (As := [.ref av]) (rest := []) ⟨hx, hb, hml, hown, hts⟩ (kN_differences l D k M (sa i) av (ra i) (nn i) va g hsa hav hrr hcn _) (cwV 1 hts (bw_V bw_204 bw_205 bw_206 bw_11 bw_207) rfl rfl rfl (by decide +kernel) ⟨Nat.le_of_ble_eq_true rfl, Nat.le_of_ble_eq_true rfl⟩) (mp_preV I hsa rfl _) rfl rfl hl.1 rfl (lv_room (Nat.le_of_ble_eq_true rfl)) dD_back_17 ⟨Nat.le_of_ble_eq_true rfl, Nat.le_of_ble_eq_true rfl⟩) I (fun rd N1 H locs hp I => ?_)
    obtain ⟨e_3, hp⟩ := hp
    rw [e_3] at I
    rw [dif_congr hg] at hp
    subst hp
    have hdl := dif_le va (nv i) (nn i)
    refine lv_istore_n (lv' := [(3, .int (nI (dif va (nv i) (nn i)))), (2, .ref (sa i)), (0, .ref d), (1, .int (nI i))]) hx hb dD_back_20 rfl hl (by decide) rfl (fun ls hl => ?_)
    refine lv_aload_n hx hb dD_back_21 rfl (lv_at hl 1 rfl) ?_
    refine lv_aload_n hx hb dD_back_22 rfl (lv_at hl 2 rfl) ?_
    refine mp_get (v := .ref av) hx hb hts inD hown I h0 rfl 0 (by decide) (hts _ bw_26) (fun _ h9 => h9) rfl dD_back_23 ?_
    refine mp_callv (va_runV (As := [.ref av]) (rest := []) ⟨hx, hb, hml, hown, hts⟩ (kN_restore l D k M (sa i) av (ra i) (nn i) va g hsa hav hrr (Ne.symm hra) hcn _) (cwV 1 hts (bw_V bw_208 bw_209 bw_210 bw_11 bw_211) rfl rfl rfl (by decide +kernel) ⟨Nat.le_of_ble_eq_true rfl, Nat.le_of_ble_eq_true rfl⟩) (mp_preV I hsa rfl _) rfl rfl hl.1 rfl (lv_room (Nat.le_of_ble_eq_true rfl)) dD_back_26 ⟨Nat.le_of_ble_eq_true rfl, Nat.le_of_ble_eq_true rfl⟩) I (fun N1 H locs hp I => ?_)
    rw [vbk_cpy hg] at hp
    rw [hp] at I
    have I : mp_I D cls5 (tys6 k) s _ s.heap H locs (mp_up M av (.inl (k 1, 4000, .inr (.inl (vbk va (nv i) (nn i)))))) := I
    have hav_n : mp_up M av (.inl (k 1, 4000, .inr (.inl (vbk va (nv i) (nn i))))) av = some (.inl (k 1, 4000, .inr (.inl (vbk va (nv i) (nn i))))) := mp_up_s _ _ _
    have h0_n : mp_up M av (.inl (k 1, 4000, .inr (.inl (vbk va (nv i) (nn i))))) d = some (.inr (0, [.ref av, .ref ak, .int (nI ec), .ref at_, .int (nI tc), .ref aw, .int (nI wc), .ref as_, .int (nI sc), .ref an, .int (nI nc)])) := (mp_up_n (mp_ne h0 hav (by simp))).trans h0
    have hak_n : mp_up M av (.inl (k 1, 4000, .inr (.inl (vbk va (nv i) (nn i))))) ak = some (.inl (k 0, 4000, .inl (fun i_ => nI (kd i_)))) := (mp_up_n (mp_ne hak hav (by simp))).trans hak
    have hat_n : mp_up M av (.inl (k 1, 4000, .inr (.inl (vbk va (nv i) (nn i))))) at_ = some (.inl (k 2, 300, .inr (.inr (.inr (.inr qt))))) := (mp_up_n (mp_ne hat hav (by simp))).trans hat
    have haw_n : mp_up M av (.inl (k 1, 4000, .inr (.inl (vbk va (nv i) (nn i))))) aw = some (.inl (k 0, 12, .inl (fun i_ => nI (wt i_)))) := (mp_up_n (mp_ne haw hav (by simp))).trans haw
    have has_n : mp_up M av (.inl (k 1, 4000, .inr (.inl (vbk va (nv i) (nn i))))) as_ = some (.inl (k 3, 100, .inr (.inr (.inr (.inr qs))))) := (mp_up_n (mp_ne has hav (by simp))).trans has
    have han_n : mp_up M av (.inl (k 1, 4000, .inr (.inl (vbk va (nv i) (nn i))))) an = some (.inl (k 4, 20, .inr (.inr (.inr (.inr qn))))) := (mp_up_n (mp_ne han hav (by simp))).trans han
    have hsa_n : mp_up M av (.inl (k 1, 4000, .inr (.inl (vbk va (nv i) (nn i))))) (sa i) = some (.inr (3, [.ref (ra i), .int (nI (nn i))])) := (mp_up_n (mp_ne hsa hav (by simp))).trans hsa
    have hrr_n : mp_up M av (.inl (k 1, 4000, .inr (.inl (vbk va (nv i) (nn i))))) (ra i) = some (.inl (k 1, 4000, .inr (.inl g))) := (mp_up_n hra).trans hrr
    generalize eM_5 : mp_up M av (.inl (k 1, 4000, .inr (.inl (vbk va (nv i) (nn i))))) = M_4 at I h0_n hav_n hak_n hat_n haw_n has_n han_n hsa_n hrr_n
    have h0__M_4 := h0_n
    have hav__M_4 := hav_n
    have hak__M_4 := hak_n
    have hat__M_4 := hat_n
    have haw__M_4 := haw_n
    have has__M_4 := has_n
    have han__M_4 := han_n
    have hsa__M_4 := hsa_n
    have hrr__M_4 := hrr_n
    clear h0_n hav_n hak_n hat_n haw_n has_n han_n hsa_n hrr_n
    have hD := hD.setV (vbk va (nv i) (nn i))
    rw [eM_5] at hD
    refine lv_aload_n hx hb dD_back_29 rfl (lv_at hl 2 rfl) ?_
    refine lv_iload_n hx hb dD_back_30 rfl (lv_at hl 3 rfl) ?_
    refine lv_iconst (v := nI 1) hx hb dD_back_31 (by decide) ?_
    refine zz_iadd hx hb dD_back_32 ?_
    refine mp_put (v := .int (nI (i + 1))) (ty := .int) hx hb hts inD tyD okD nmD hown I h0__M_4 rfl 10 (by decide) (hts _ bw_36) (fun _ h9 => h9) rfl (by decide +kernel) rfl rfl (Nat.le_of_ble_eq_true rfl) dD_back_33 (fun H locs I => ?_)
    have I : mp_I D cls5 (tys6 k) s _ s.heap H locs (mp_up M_4 d (.inr (0, [.ref av, .ref ak, .int (nI ec), .ref at_, .int (nI tc), .ref aw, .int (nI wc), .ref as_, .int (nI sc), .ref an, .int (nI (i + 1))]))) := I
    have h0__M_4_n : mp_up M_4 d (.inr (0, [.ref av, .ref ak, .int (nI ec), .ref at_, .int (nI tc), .ref aw, .int (nI wc), .ref as_, .int (nI sc), .ref an, .int (nI (i + 1))])) d = some (.inr (0, [.ref av, .ref ak, .int (nI ec), .ref at_, .int (nI tc), .ref aw, .int (nI wc), .ref as_, .int (nI sc), .ref an, .int (nI (i + 1))])) := mp_up_s _ _ _
    have hav__M_4_n : mp_up M_4 d (.inr (0, [.ref av, .ref ak, .int (nI ec), .ref at_, .int (nI tc), .ref aw, .int (nI wc), .ref as_, .int (nI sc), .ref an, .int (nI (i + 1))])) av = some (.inl (k 1, 4000, .inr (.inl (vbk va (nv i) (nn i))))) := (mp_up_n (mp_ne hav__M_4 h0__M_4 (by simp))).trans hav__M_4
    have hak__M_4_n : mp_up M_4 d (.inr (0, [.ref av, .ref ak, .int (nI ec), .ref at_, .int (nI tc), .ref aw, .int (nI wc), .ref as_, .int (nI sc), .ref an, .int (nI (i + 1))])) ak = some (.inl (k 0, 4000, .inl (fun i_ => nI (kd i_)))) := (mp_up_n (mp_ne hak__M_4 h0__M_4 (by simp))).trans hak__M_4
    have hat__M_4_n : mp_up M_4 d (.inr (0, [.ref av, .ref ak, .int (nI ec), .ref at_, .int (nI tc), .ref aw, .int (nI wc), .ref as_, .int (nI sc), .ref an, .int (nI (i + 1))])) at_ = some (.inl (k 2, 300, .inr (.inr (.inr (.inr qt))))) := (mp_up_n (mp_ne hat__M_4 h0__M_4 (by simp))).trans hat__M_4
    have haw__M_4_n : mp_up M_4 d (.inr (0, [.ref av, .ref ak, .int (nI ec), .ref at_, .int (nI tc), .ref aw, .int (nI wc), .ref as_, .int (nI sc), .ref an, .int (nI (i + 1))])) aw = some (.inl (k 0, 12, .inl (fun i_ => nI (wt i_)))) := (mp_up_n (mp_ne haw__M_4 h0__M_4 (by simp))).trans haw__M_4
    have has__M_4_n : mp_up M_4 d (.inr (0, [.ref av, .ref ak, .int (nI ec), .ref at_, .int (nI tc), .ref aw, .int (nI wc), .ref as_, .int (nI sc), .ref an, .int (nI (i + 1))])) as_ = some (.inl (k 3, 100, .inr (.inr (.inr (.inr qs))))) := (mp_up_n (mp_ne has__M_4 h0__M_4 (by simp))).trans has__M_4
    have han__M_4_n : mp_up M_4 d (.inr (0, [.ref av, .ref ak, .int (nI ec), .ref at_, .int (nI tc), .ref aw, .int (nI wc), .ref as_, .int (nI sc), .ref an, .int (nI (i + 1))])) an = some (.inl (k 4, 20, .inr (.inr (.inr (.inr qn))))) := (mp_up_n (mp_ne han__M_4 h0__M_4 (by simp))).trans han__M_4
    have hsa__M_4_n : mp_up M_4 d (.inr (0, [.ref av, .ref ak, .int (nI ec), .ref at_, .int (nI tc), .ref aw, .int (nI wc), .ref as_, .int (nI sc), .ref an, .int (nI (i + 1))])) (sa i) = some (.inr (3, [.ref (ra i), .int (nI (nn i))])) := (mp_up_n (mp_ne hsa__M_4 h0__M_4 (by simp))).trans hsa__M_4
    have hrr__M_4_n : mp_up M_4 d (.inr (0, [.ref av, .ref ak, .int (nI ec), .ref at_, .int (nI tc), .ref aw, .int (nI wc), .ref as_, .int (nI sc), .ref an, .int (nI (i + 1))])) (ra i) = some (.inl (k 1, 4000, .inr (.inl g))) := (mp_up_n (mp_ne hrr__M_4 h0__M_4 (by simp))).trans hrr__M_4
    generalize eM_7 : mp_up M_4 d (.inr (0, [.ref av, .ref ak, .int (nI ec), .ref at_, .int (nI tc), .ref aw, .int (nI wc), .ref as_, .int (nI sc), .ref an, .int (nI (i + 1))])) = M_6 at I h0__M_4_n hav__M_4_n hak__M_4_n hat__M_4_n haw__M_4_n has__M_4_n han__M_4_n hsa__M_4_n hrr__M_4_n
    have h0__M_6 := h0__M_4_n
    have hav__M_6 := hav__M_4_n
    have hak__M_6 := hak__M_4_n
    have hat__M_6 := hat__M_4_n
    have haw__M_6 := haw__M_4_n
    have has__M_6 := has__M_4_n
    have han__M_6 := han__M_4_n
    have hsa__M_6 := hsa__M_4_n
    have hrr__M_6 := hrr__M_4_n
    clear h0__M_4_n hav__M_4_n hak__M_4_n hat__M_4_n haw__M_4_n has__M_4_n han__M_4_n hsa__M_4_n hrr__M_4_n
    have hD := hD.cntNle (i + 1) (by omega)
    rw [eM_7] at hD
    refine lv_iload_n hx hb dD_back_36 rfl (lv_at hl 0 rfl) ?_
    exact mp_iret hx hb hr hlocks I (Nat.le_of_ble_eq_true rfl) (Nat.le_of_ble_eq_true rfl) dD_back_37 (Or.inl ⟨by omega, i, hz_xn, rfl, hD⟩)
  · dsimp only [va_rf]
    refine lv_astore_nN (lv' := [(2, .null), (0, .ref d), (1, .int x)]) hx hb dD_back_5 rfl hl (by decide) rfl (fun ls hl => ?_)
    refine lv_aload_nN hx hb dD_back_6 rfl (lv_at hl 0 rfl) ?_
    refine lv_ifnonnullN hx hb dD_back_7 ?_
    refine lv_iconst (v := (-1)) hx hb dD_back_10 (by decide) ?_
    exact mp_iret hx hb hr hlocks I (Nat.le_of_ble_eq_true rfl) (Nat.le_of_ble_eq_true rfl) dD_back_11 (Or.inr ⟨by omega, rfl, rfl⟩)
abbrev rm_D_changed : Room := { frames := 1, cells := 0, slots := 0, locals := 30 }
set_option maxHeartbeats 4000000 in
set_option maxRecDepth 100000 in
theorem kD_changed (l : Launch) (D : va_G) (k : Nat → ClassId) (M : mp_M) {d av ak at_ aw as_ an : Nat} {qt qs qn : Nat → Option Nat} {sa ra : Nat → Nat} {ec tc wc sc nc : Nat} {va : Nat → Int64} {kd wt tk tf tz sk sf sw sl nn : Nat → Nat} {nv : Nat → Nat → Int64} (hD : DkX k M d av ak at_ aw as_ an qt qs qn sa ra ec tc wc sc nc va kd wt tk tf tz sk sf sw sl nn nv) (hO : OkB ec tc wc sc nc tk tf tz sk sf sw sl nn) (x : Int32) : mp_Met l yD_changed (Cond.code yD_changed cD_changed 3 (some .int) :: bw) rm_D_changed D cls5 (tys6 k) [.ref d, .int x] M (va_Qi (fun r M1 => M1 = M ∧ r = if 0 ≤ x.toInt ∧ x.toInt < (nc : Int) then nI (dif va (nv x.toInt.toNat) (nn x.toInt.toNat)) else -1)) 0 0 := by
  refine mp_Met.of (by decide) (Nat.le_of_ble_eq_true rfl) ?_
  intro p e s m below meth c hx hb hr hml hown hts hlocks hin ls hl I
  have hl : lv_has ls 3 [(0, .ref d), (1, .int x)] := hl
  obtain ⟨h0, hav, hak, hat, haw, has, han, hth, hsp, hsn, hij⟩ := id hD
  obtain ⟨b1, b2, b3, b4, b5, bT, bS, bN⟩ := id hO
  refine lv_aload_n hx hb dD_changed_0 rfl (lv_at hl 0 rfl) ?_
  refine lv_iload_n hx hb dD_changed_1 rfl (lv_at hl 1 rfl) ?_
  refine mp_callq (va_runV (As := [.int x]) (rest := []) ⟨hx, hb, hml, hown, hts⟩ (kD_findSnapshot l D k M hD hO x _) (cwV 1 hts (bw_V bw_200 bw_202 bs_5 bw_1 bw_203) rfl rfl rfl (by decide +kernel) ⟨Nat.le_of_ble_eq_true rfl, Nat.le_of_ble_eq_true rfl⟩) (mp_preV I h0 rfl _) rfl rfl hl.1 rfl (lv_room (Nat.le_of_ble_eq_true rfl)) dD_changed_2 ⟨Nat.le_of_ble_eq_true rfl, Nat.le_of_ble_eq_true rfl⟩) I (fun r_1 N1 H locs hp I => ?_)
  obtain ⟨e_2, hp⟩ := hp
  rw [e_2] at I
  rcases hp with ⟨i, a, hii, hzi, rfl, rfl, hra, g, hsa, hrr, hcn, hg⟩ | ⟨pni, rfl⟩
  · dsimp only [va_rf]
    have hxi : x.toInt.toNat = i := by omega
    refine lv_astore_n (lv' := [(2, .ref (sa i)), (0, .ref d), (1, .int x)]) hx hb dD_changed_5 rfl hl (by decide) rfl (fun ls hl => ?_)
    refine lv_aload_n hx hb dD_changed_6 rfl (lv_at hl 0 rfl) ?_
    refine lv_ifnonnull (tgt := 14) hx hb dD_changed_7 (by decide) ?_
    refine lv_aload_n hx hb dD_changed_14 rfl (lv_at hl 0 rfl) ?_
    refine lv_aload_n hx hb dD_changed_15 rfl (lv_at hl 1 rfl) ?_
    refine mp_get (v := .ref av) hx hb hts inD hown I h0 rfl 0 (by decide) (hts _ bw_26) (fun _ h9 => h9) rfl dD_changed_16 ?_
    refine mp_calli (va_runV (As := [.ref av]) (rest := []) ⟨hx, hb, hml, hown, hts⟩ (kN_differences l D k M (sa i) av (ra i) (nn i) va g hsa hav hrr hcn _) (cwV 1 hts (bw_V bw_204 bw_205 bw_206 bw_11 bw_207) rfl rfl rfl (by decide +kernel) ⟨Nat.le_of_ble_eq_true rfl, Nat.le_of_ble_eq_true rfl⟩) (mp_preV I hsa rfl _) rfl rfl hl.1 rfl (lv_room (Nat.le_of_ble_eq_true rfl)) dD_changed_19 ⟨Nat.le_of_ble_eq_true rfl, Nat.le_of_ble_eq_true rfl⟩) I (fun rd N1 H locs hp I => ?_)
    obtain ⟨e_3, hp⟩ := hp
    rw [e_3] at I
    rw [dif_congr hg] at hp
    subst hp
    have hdl := dif_le va (nv i) (nn i)
    exact mp_iret hx hb hr hlocks I (Nat.le_of_ble_eq_true rfl) (Nat.le_of_ble_eq_true rfl) dD_changed_22 ⟨rfl, by rw [if_pos (show 0 ≤ x.toInt ∧ x.toInt < (nc : Int) by omega), hxi]⟩
  · dsimp only [va_rf]
    refine lv_astore_nN (lv' := [(2, .null), (0, .ref d), (1, .int x)]) hx hb dD_changed_5 rfl hl (by decide) rfl (fun ls hl => ?_)
    refine lv_aload_nN hx hb dD_changed_6 rfl (lv_at hl 0 rfl) ?_
    refine lv_ifnonnullN hx hb dD_changed_7 ?_
    refine lv_iconst (v := (-1)) hx hb dD_changed_10 (by decide) ?_
    refine lv_goto (tgt := 22) hx hb dD_changed_11 (by decide) ?_
    exact mp_iret hx hb hr hlocks I (Nat.le_of_ble_eq_true rfl) (Nat.le_of_ble_eq_true rfl) dD_changed_22 ⟨rfl, by rw [if_neg (by omega)]⟩
