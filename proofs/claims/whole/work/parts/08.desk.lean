/-! ## The class: a desk over a map (written by wip/gen/desk.py) -/
def DkX (k : Nat → ClassId) (M : mp_M) (d av ak at_ aw as_ an : Nat) (qt qs qn : Nat → Option Nat) (sa ra : Nat → Nat) (ec tc wc sc nc : Nat) (va : Nat → Int64) (kd wt tk tf tz sk sf sw sl nn : Nat → Nat) (nv : Nat → Nat → Int64) : Prop :=
  M d = some (.inr (0, [.ref av, .ref ak, .int (nI ec), .ref at_, .int (nI tc), .ref aw, .int (nI wc), .ref as_, .int (nI sc), .ref an, .int (nI nc)])) ∧ M av = some (.inl (k 1, 4000, .inr (.inl va))) ∧ M ak = some (.inl (k 0, 4000, .inl (fun i => nI (kd i)))) ∧ M at_ = some (.inl (k 2, 300, .inr (.inr (.inr (.inr qt))))) ∧ M aw = some (.inl (k 0, 12, .inl (fun i => nI (wt i)))) ∧ M as_ = some (.inl (k 3, 100, .inr (.inr (.inr (.inr qs))))) ∧ M an = some (.inl (k 4, 20, .inr (.inr (.inr (.inr qn))))) ∧
  (∀ i, i < tc → ∃ a, qt i = some a ∧ M a = some (.inr (1, [.int (nI (tk i)), .int (nI (tf i)), .int (nI (tz i))]))) ∧
  (∀ i, i < sc → ∃ a, qs i = some a ∧ M a = some (.inr (2, [.int (nI (sk i)), .int (nI (sf i)), .int (nI (sw i)), .int (nI (sl i))]))) ∧
  (∀ i, i < 20 → (qn i = none ∧ nc ≤ i) ∨ (qn i = some (sa i) ∧ ra i ≠ av ∧ ∃ (cn : Nat) (g : Nat → Int64), M (sa i) = some (.inr (3, [.ref (ra i), .int (nI cn)])) ∧ M (ra i) = some (.inl (k 1, 4000, .inr (.inl g))) ∧ cn ≤ 4000 ∧ (i < nc → cn = nn i ∧ ∀ j, j < cn → g j = nv i j))) ∧
  (∀ i j, i < 20 → j < 20 → qn i ≠ none → qn j ≠ none → i ≠ j → sa i ≠ sa j ∧ ra i ≠ ra j)
/-- bounds of the numbers -/
def OkB (ec tc wc sc nc : Nat) (tk tf tz sk sf sw sl nn : Nat → Nat) : Prop := ec ≤ 4000 ∧ tc ≤ 300 ∧ wc ≤ 12 ∧ sc ≤ 100 ∧ nc ≤ 20 ∧ (∀ i, i < tc → tk i ≤ 7 ∧ tz i ≤ 200 ∧ tf i + tz i ≤ ec) ∧ (∀ i, i < sc → 1 ≤ sk i ∧ sk i ≤ 7 ∧ 1 ≤ sw i ∧ sw i ≤ 8 ∧ sf i + sw i ≤ ec ∧ sl i ≤ 1) ∧ (∀ i, i < nc → nn i ≤ ec)
theorem DkX.setV {k : Nat → ClassId} {M : mp_M} {d av ak at_ aw as_ an : Nat} {qt qs qn : Nat → Option Nat} {sa ra : Nat → Nat} {ec tc wc sc nc : Nat} {va : Nat → Int64} {kd wt tk tf tz sk sf sw sl nn : Nat → Nat} {nv : Nat → Nat → Int64} (va2 : Nat → Int64) (h : DkX k M d av ak at_ aw as_ an qt qs qn sa ra ec tc wc sc nc va kd wt tk tf tz sk sf sw sl nn nv) : DkX k (mp_up M av (.inl (k 1, 4000, .inr (.inl va2)))) d av ak at_ aw as_ an qt qs qn sa ra ec tc wc sc nc (va2) kd wt tk tf tz sk sf sw sl nn nv := by
  obtain ⟨h0, hav, hak, hat, haw, has, han, hth, hsp, hsn, hij⟩ := h
  refine ⟨(mp_up_n (mp_ne h0 hav (by simp))).trans h0, mp_up_s _ _ _, (mp_up_n (mp_ne hak hav (by simp))).trans hak, (mp_up_n (mp_ne hat hav (by simp))).trans hat, (mp_up_n (mp_ne haw hav (by simp))).trans haw, (mp_up_n (mp_ne has hav (by simp))).trans has, (mp_up_n (mp_ne han hav (by simp))).trans han, ?_, ?_, ?_, ?_⟩
  · exact fun i hi => by
      obtain ⟨a, h1, h2⟩ := hth i hi
      exact ⟨a, h1, (mp_up_n (mp_ne h2 hav (by simp))).trans h2⟩
  · exact fun i hi => by
      obtain ⟨a, h1, h2⟩ := hsp i hi
      exact ⟨a, h1, (mp_up_n (mp_ne h2 hav (by simp))).trans h2⟩
  · exact fun i hi => by
      rcases hsn i hi with h1 | ⟨h1, h2, cn, g, h3, h4, h5⟩
      · exact Or.inl h1
      · exact Or.inr ⟨h1, h2, cn, g, (mp_up_n (mp_ne h3 hav (by simp))).trans h3, (mp_up_n (fun q => h2 q)).trans h4, h5⟩
  · exact hij
theorem DkX.setK {k : Nat → ClassId} {M : mp_M} {d av ak at_ aw as_ an : Nat} {qt qs qn : Nat → Option Nat} {sa ra : Nat → Nat} {ec tc wc sc nc : Nat} {va : Nat → Int64} {kd wt tk tf tz sk sf sw sl nn : Nat → Nat} {nv : Nat → Nat → Int64} (kd2 : Nat → Nat) (h : DkX k M d av ak at_ aw as_ an qt qs qn sa ra ec tc wc sc nc va kd wt tk tf tz sk sf sw sl nn nv) : DkX k (mp_up M ak (.inl (k 0, 4000, .inl (fun i => nI (kd2 i))))) d av ak at_ aw as_ an qt qs qn sa ra ec tc wc sc nc va (kd2) wt tk tf tz sk sf sw sl nn nv := by
  obtain ⟨h0, hav, hak, hat, haw, has, han, hth, hsp, hsn, hij⟩ := h
  refine ⟨(mp_up_n (mp_ne h0 hak (by simp))).trans h0, (mp_up_n (mp_ne hav hak (by simp))).trans hav, mp_up_s _ _ _, (mp_up_n (mp_ne hat hak (by simp))).trans hat, (mp_up_n (mp_ne haw hak (by simp))).trans haw, (mp_up_n (mp_ne has hak (by simp))).trans has, (mp_up_n (mp_ne han hak (by simp))).trans han, ?_, ?_, ?_, ?_⟩
  · exact fun i hi => by
      obtain ⟨a, h1, h2⟩ := hth i hi
      exact ⟨a, h1, (mp_up_n (mp_ne h2 hak (by simp))).trans h2⟩
  · exact fun i hi => by
      obtain ⟨a, h1, h2⟩ := hsp i hi
      exact ⟨a, h1, (mp_up_n (mp_ne h2 hak (by simp))).trans h2⟩
  · exact fun i hi => by
      rcases hsn i hi with h1 | ⟨h1, h2, cn, g, h3, h4, h5⟩
      · exact Or.inl h1
      · exact Or.inr ⟨h1, h2, cn, g, (mp_up_n (mp_ne h3 hak (by simp))).trans h3, (mp_up_n (mp_ne h4 hak (by simp))).trans h4, h5⟩
  · exact hij
theorem DkX.setW {k : Nat → ClassId} {M : mp_M} {d av ak at_ aw as_ an : Nat} {qt qs qn : Nat → Option Nat} {sa ra : Nat → Nat} {ec tc wc sc nc : Nat} {va : Nat → Int64} {kd wt tk tf tz sk sf sw sl nn : Nat → Nat} {nv : Nat → Nat → Int64} (wt2 : Nat → Nat) (h : DkX k M d av ak at_ aw as_ an qt qs qn sa ra ec tc wc sc nc va kd wt tk tf tz sk sf sw sl nn nv) : DkX k (mp_up M aw (.inl (k 0, 12, .inl (fun i => nI (wt2 i))))) d av ak at_ aw as_ an qt qs qn sa ra ec tc wc sc nc va kd (wt2) tk tf tz sk sf sw sl nn nv := by
  obtain ⟨h0, hav, hak, hat, haw, has, han, hth, hsp, hsn, hij⟩ := h
  refine ⟨(mp_up_n (mp_ne h0 haw (by simp))).trans h0, (mp_up_n (mp_ne hav haw (by simp))).trans hav, (mp_up_n (mp_ne hak haw (by simp))).trans hak, (mp_up_n (mp_ne hat haw (by simp))).trans hat, mp_up_s _ _ _, (mp_up_n (mp_ne has haw (by simp))).trans has, (mp_up_n (mp_ne han haw (by simp))).trans han, ?_, ?_, ?_, ?_⟩
  · exact fun i hi => by
      obtain ⟨a, h1, h2⟩ := hth i hi
      exact ⟨a, h1, (mp_up_n (mp_ne h2 haw (by simp))).trans h2⟩
  · exact fun i hi => by
      obtain ⟨a, h1, h2⟩ := hsp i hi
      exact ⟨a, h1, (mp_up_n (mp_ne h2 haw (by simp))).trans h2⟩
  · exact fun i hi => by
      rcases hsn i hi with h1 | ⟨h1, h2, cn, g, h3, h4, h5⟩
      · exact Or.inl h1
      · exact Or.inr ⟨h1, h2, cn, g, (mp_up_n (mp_ne h3 haw (by simp))).trans h3, (mp_up_n (mp_ne h4 haw (by simp))).trans h4, h5⟩
  · exact hij
theorem DkX.setT {k : Nat → ClassId} {M : mp_M} {d av ak at_ aw as_ an : Nat} {qt qs qn : Nat → Option Nat} {sa ra : Nat → Nat} {ec tc wc sc nc : Nat} {va : Nat → Int64} {kd wt tk tf tz sk sf sw sl nn : Nat → Nat} {nv : Nat → Nat → Int64} (q : Option Nat) (h : DkX k M d av ak at_ aw as_ an qt qs qn sa ra ec tc wc sc nc va kd wt tk tf tz sk sf sw sl nn nv) : DkX k (mp_up M at_ (.inl (k 2, 300, .inr (.inr (.inr (.inr (va_up qt tc q))))))) d av ak at_ aw as_ an (va_up qt tc q) qs qn sa ra ec tc wc sc nc va kd wt tk tf tz sk sf sw sl nn nv := by
  obtain ⟨h0, hav, hak, hat, haw, has, han, hth, hsp, hsn, hij⟩ := h
  refine ⟨(mp_up_n (mp_ne h0 hat (by simp))).trans h0, (mp_up_n (mp_ne hav hat (by simp))).trans hav, (mp_up_n (mp_ne hak hat (by simp))).trans hak, mp_up_s _ _ _, (mp_up_n (mp_ne haw hat (by simp))).trans haw, (mp_up_n (mp_ne has hat (by simp))).trans has, (mp_up_n (mp_ne han hat (by simp))).trans han, ?_, ?_, ?_, ?_⟩
  · exact fun i hi => by
      obtain ⟨a, h1, h2⟩ := hth i hi
      exact ⟨a, by rw [va_up_ne _ _ (by omega)]; exact h1, (mp_up_n (mp_ne h2 hat (by simp))).trans h2⟩
  · exact fun i hi => by
      obtain ⟨a, h1, h2⟩ := hsp i hi
      exact ⟨a, h1, (mp_up_n (mp_ne h2 hat (by simp))).trans h2⟩
  · exact fun i hi => by
      rcases hsn i hi with h1 | ⟨h1, h2, cn, g, h3, h4, h5⟩
      · exact Or.inl h1
      · exact Or.inr ⟨h1, h2, cn, g, (mp_up_n (mp_ne h3 hat (by simp))).trans h3, (mp_up_n (mp_ne h4 hat (by simp))).trans h4, h5⟩
  · exact hij
theorem DkX.setS {k : Nat → ClassId} {M : mp_M} {d av ak at_ aw as_ an : Nat} {qt qs qn : Nat → Option Nat} {sa ra : Nat → Nat} {ec tc wc sc nc : Nat} {va : Nat → Int64} {kd wt tk tf tz sk sf sw sl nn : Nat → Nat} {nv : Nat → Nat → Int64} (q : Option Nat) (h : DkX k M d av ak at_ aw as_ an qt qs qn sa ra ec tc wc sc nc va kd wt tk tf tz sk sf sw sl nn nv) : DkX k (mp_up M as_ (.inl (k 3, 100, .inr (.inr (.inr (.inr (va_up qs sc q))))))) d av ak at_ aw as_ an qt (va_up qs sc q) qn sa ra ec tc wc sc nc va kd wt tk tf tz sk sf sw sl nn nv := by
  obtain ⟨h0, hav, hak, hat, haw, has, han, hth, hsp, hsn, hij⟩ := h
  refine ⟨(mp_up_n (mp_ne h0 has (by simp))).trans h0, (mp_up_n (mp_ne hav has (by simp))).trans hav, (mp_up_n (mp_ne hak has (by simp))).trans hak, (mp_up_n (mp_ne hat has (by simp))).trans hat, (mp_up_n (mp_ne haw has (by simp))).trans haw, mp_up_s _ _ _, (mp_up_n (mp_ne han has (by simp))).trans han, ?_, ?_, ?_, ?_⟩
  · exact fun i hi => by
      obtain ⟨a, h1, h2⟩ := hth i hi
      exact ⟨a, h1, (mp_up_n (mp_ne h2 has (by simp))).trans h2⟩
  · exact fun i hi => by
      obtain ⟨a, h1, h2⟩ := hsp i hi
      exact ⟨a, by rw [va_up_ne _ _ (by omega)]; exact h1, (mp_up_n (mp_ne h2 has (by simp))).trans h2⟩
  · exact fun i hi => by
      rcases hsn i hi with h1 | ⟨h1, h2, cn, g, h3, h4, h5⟩
      · exact Or.inl h1
      · exact Or.inr ⟨h1, h2, cn, g, (mp_up_n (mp_ne h3 has (by simp))).trans h3, (mp_up_n (mp_ne h4 has (by simp))).trans h4, h5⟩
  · exact hij
theorem DkX.cntE {k : Nat → ClassId} {M : mp_M} {d av ak at_ aw as_ an : Nat} {qt qs qn : Nat → Option Nat} {sa ra : Nat → Nat} {ec tc wc sc nc : Nat} {va : Nat → Int64} {kd wt tk tf tz sk sf sw sl nn : Nat → Nat} {nv : Nat → Nat → Int64} (ec2 : Nat) (h : DkX k M d av ak at_ aw as_ an qt qs qn sa ra ec tc wc sc nc va kd wt tk tf tz sk sf sw sl nn nv) : DkX k (mp_up M d (.inr (0, [.ref av, .ref ak, .int (nI (ec2)), .ref at_, .int (nI tc), .ref aw, .int (nI wc), .ref as_, .int (nI sc), .ref an, .int (nI nc)]))) d av ak at_ aw as_ an qt qs qn sa ra (ec2) tc wc sc nc va kd wt tk tf tz sk sf sw sl nn nv := by
  obtain ⟨h0, hav, hak, hat, haw, has, han, hth, hsp, hsn, hij⟩ := h
  refine ⟨mp_up_s _ _ _, (mp_up_n (mp_ne hav h0 (by simp))).trans hav, (mp_up_n (mp_ne hak h0 (by simp))).trans hak, (mp_up_n (mp_ne hat h0 (by simp))).trans hat, (mp_up_n (mp_ne haw h0 (by simp))).trans haw, (mp_up_n (mp_ne has h0 (by simp))).trans has, (mp_up_n (mp_ne han h0 (by simp))).trans han, ?_, ?_, ?_, ?_⟩
  · exact fun i hi => by
      obtain ⟨a, h1, h2⟩ := hth i hi
      exact ⟨a, h1, (mp_up_n (mp_ne h2 h0 (by simp))).trans h2⟩
  · exact fun i hi => by
      obtain ⟨a, h1, h2⟩ := hsp i hi
      exact ⟨a, h1, (mp_up_n (mp_ne h2 h0 (by simp))).trans h2⟩
  · exact fun i hi => by
      rcases hsn i hi with h1 | ⟨h1, h2, cn, g, h3, h4, h5⟩
      · exact Or.inl h1
      · exact Or.inr ⟨h1, h2, cn, g, (mp_up_n (mp_ne h3 h0 (by simp))).trans h3, (mp_up_n (mp_ne h4 h0 (by simp))).trans h4, h5⟩
  · exact hij
theorem DkX.cntW {k : Nat → ClassId} {M : mp_M} {d av ak at_ aw as_ an : Nat} {qt qs qn : Nat → Option Nat} {sa ra : Nat → Nat} {ec tc wc sc nc : Nat} {va : Nat → Int64} {kd wt tk tf tz sk sf sw sl nn : Nat → Nat} {nv : Nat → Nat → Int64} (wc2 : Nat) (h : DkX k M d av ak at_ aw as_ an qt qs qn sa ra ec tc wc sc nc va kd wt tk tf tz sk sf sw sl nn nv) : DkX k (mp_up M d (.inr (0, [.ref av, .ref ak, .int (nI ec), .ref at_, .int (nI tc), .ref aw, .int (nI (wc2)), .ref as_, .int (nI sc), .ref an, .int (nI nc)]))) d av ak at_ aw as_ an qt qs qn sa ra ec tc (wc2) sc nc va kd wt tk tf tz sk sf sw sl nn nv := by
  obtain ⟨h0, hav, hak, hat, haw, has, han, hth, hsp, hsn, hij⟩ := h
  refine ⟨mp_up_s _ _ _, (mp_up_n (mp_ne hav h0 (by simp))).trans hav, (mp_up_n (mp_ne hak h0 (by simp))).trans hak, (mp_up_n (mp_ne hat h0 (by simp))).trans hat, (mp_up_n (mp_ne haw h0 (by simp))).trans haw, (mp_up_n (mp_ne has h0 (by simp))).trans has, (mp_up_n (mp_ne han h0 (by simp))).trans han, ?_, ?_, ?_, ?_⟩
  · exact fun i hi => by
      obtain ⟨a, h1, h2⟩ := hth i hi
      exact ⟨a, h1, (mp_up_n (mp_ne h2 h0 (by simp))).trans h2⟩
  · exact fun i hi => by
      obtain ⟨a, h1, h2⟩ := hsp i hi
      exact ⟨a, h1, (mp_up_n (mp_ne h2 h0 (by simp))).trans h2⟩
  · exact fun i hi => by
      rcases hsn i hi with h1 | ⟨h1, h2, cn, g, h3, h4, h5⟩
      · exact Or.inl h1
      · exact Or.inr ⟨h1, h2, cn, g, (mp_up_n (mp_ne h3 h0 (by simp))).trans h3, (mp_up_n (mp_ne h4 h0 (by simp))).trans h4, h5⟩
  · exact hij
theorem DkX.cntT {k : Nat → ClassId} {M : mp_M} {d av ak at_ aw as_ an : Nat} {qt qs qn : Nat → Option Nat} {sa ra : Nat → Nat} {ec tc wc sc nc : Nat} {va : Nat → Int64} {kd wt tk tf tz sk sf sw sl nn : Nat → Nat} {nv : Nat → Nat → Int64} (a x y z : Nat) (ha : qt tc = some a) (hM : M a = some (.inr (1, [.int (nI x), .int (nI y), .int (nI z)]))) (h : DkX k M d av ak at_ aw as_ an qt qs qn sa ra ec tc wc sc nc va kd wt tk tf tz sk sf sw sl nn nv) : DkX k (mp_up M d (.inr (0, [.ref av, .ref ak, .int (nI ec), .ref at_, .int (nI (tc + 1)), .ref aw, .int (nI wc), .ref as_, .int (nI sc), .ref an, .int (nI nc)]))) d av ak at_ aw as_ an qt qs qn sa ra ec (tc + 1) wc sc nc va kd wt (nu tk tc x) (nu tf tc y) (nu tz tc z) sk sf sw sl nn nv := by
  obtain ⟨h0, hav, hak, hat, haw, has, han, hth, hsp, hsn, hij⟩ := h
  refine ⟨mp_up_s _ _ _, (mp_up_n (mp_ne hav h0 (by simp))).trans hav, (mp_up_n (mp_ne hak h0 (by simp))).trans hak, (mp_up_n (mp_ne hat h0 (by simp))).trans hat, (mp_up_n (mp_ne haw h0 (by simp))).trans haw, (mp_up_n (mp_ne has h0 (by simp))).trans has, (mp_up_n (mp_ne han h0 (by simp))).trans han, ?_, ?_, ?_, ?_⟩
  · exact fun i hi => by
      by_cases e : i = tc
      · subst e
        rw [nu_s, nu_s, nu_s]
        exact ⟨a, ha, (mp_up_n (mp_ne hM h0 (by simp))).trans hM⟩
      · obtain ⟨a, h1, h2⟩ := hth i (by omega)
        rw [nu_n e, nu_n e, nu_n e]
        exact ⟨a, h1, (mp_up_n (mp_ne h2 h0 (by simp))).trans h2⟩
  · exact fun i hi => by
      obtain ⟨a, h1, h2⟩ := hsp i hi
      exact ⟨a, h1, (mp_up_n (mp_ne h2 h0 (by simp))).trans h2⟩
  · exact fun i hi => by
      rcases hsn i hi with h1 | ⟨h1, h2, cn, g, h3, h4, h5⟩
      · exact Or.inl h1
      · exact Or.inr ⟨h1, h2, cn, g, (mp_up_n (mp_ne h3 h0 (by simp))).trans h3, (mp_up_n (mp_ne h4 h0 (by simp))).trans h4, h5⟩
  · exact hij
theorem DkX.cntS {k : Nat → ClassId} {M : mp_M} {d av ak at_ aw as_ an : Nat} {qt qs qn : Nat → Option Nat} {sa ra : Nat → Nat} {ec tc wc sc nc : Nat} {va : Nat → Int64} {kd wt tk tf tz sk sf sw sl nn : Nat → Nat} {nv : Nat → Nat → Int64} (a x y z b : Nat) (ha : qs sc = some a) (hM : M a = some (.inr (2, [.int (nI x), .int (nI y), .int (nI z), .int (nI b)]))) (h : DkX k M d av ak at_ aw as_ an qt qs qn sa ra ec tc wc sc nc va kd wt tk tf tz sk sf sw sl nn nv) : DkX k (mp_up M d (.inr (0, [.ref av, .ref ak, .int (nI ec), .ref at_, .int (nI tc), .ref aw, .int (nI wc), .ref as_, .int (nI (sc + 1)), .ref an, .int (nI nc)]))) d av ak at_ aw as_ an qt qs qn sa ra ec tc wc (sc + 1) nc va kd wt tk tf tz (nu sk sc x) (nu sf sc y) (nu sw sc z) (nu sl sc b) nn nv := by
  obtain ⟨h0, hav, hak, hat, haw, has, han, hth, hsp, hsn, hij⟩ := h
  refine ⟨mp_up_s _ _ _, (mp_up_n (mp_ne hav h0 (by simp))).trans hav, (mp_up_n (mp_ne hak h0 (by simp))).trans hak, (mp_up_n (mp_ne hat h0 (by simp))).trans hat, (mp_up_n (mp_ne haw h0 (by simp))).trans haw, (mp_up_n (mp_ne has h0 (by simp))).trans has, (mp_up_n (mp_ne han h0 (by simp))).trans han, ?_, ?_, ?_, ?_⟩
  · exact fun i hi => by
      obtain ⟨a, h1, h2⟩ := hth i hi
      exact ⟨a, h1, (mp_up_n (mp_ne h2 h0 (by simp))).trans h2⟩
  · exact fun i hi => by
      by_cases e : i = sc
      · subst e
        rw [nu_s, nu_s, nu_s, nu_s]
        exact ⟨a, ha, (mp_up_n (mp_ne hM h0 (by simp))).trans hM⟩
      · obtain ⟨a, h1, h2⟩ := hsp i (by omega)
        rw [nu_n e, nu_n e, nu_n e, nu_n e]
        exact ⟨a, h1, (mp_up_n (mp_ne h2 h0 (by simp))).trans h2⟩
  · exact fun i hi => by
      rcases hsn i hi with h1 | ⟨h1, h2, cn, g, h3, h4, h5⟩
      · exact Or.inl h1
      · exact Or.inr ⟨h1, h2, cn, g, (mp_up_n (mp_ne h3 h0 (by simp))).trans h3, (mp_up_n (mp_ne h4 h0 (by simp))).trans h4, h5⟩
  · exact hij
theorem DkX.cntNle {k : Nat → ClassId} {M : mp_M} {d av ak at_ aw as_ an : Nat} {qt qs qn : Nat → Option Nat} {sa ra : Nat → Nat} {ec tc wc sc nc : Nat} {va : Nat → Int64} {kd wt tk tf tz sk sf sw sl nn : Nat → Nat} {nv : Nat → Nat → Int64} (nc2 : Nat) (hle : nc2 ≤ nc) (h : DkX k M d av ak at_ aw as_ an qt qs qn sa ra ec tc wc sc nc va kd wt tk tf tz sk sf sw sl nn nv) : DkX k (mp_up M d (.inr (0, [.ref av, .ref ak, .int (nI ec), .ref at_, .int (nI tc), .ref aw, .int (nI wc), .ref as_, .int (nI sc), .ref an, .int (nI (nc2))]))) d av ak at_ aw as_ an qt qs qn sa ra ec tc wc sc (nc2) va kd wt tk tf tz sk sf sw sl nn nv := by
  obtain ⟨h0, hav, hak, hat, haw, has, han, hth, hsp, hsn, hij⟩ := h
  refine ⟨mp_up_s _ _ _, (mp_up_n (mp_ne hav h0 (by simp))).trans hav, (mp_up_n (mp_ne hak h0 (by simp))).trans hak, (mp_up_n (mp_ne hat h0 (by simp))).trans hat, (mp_up_n (mp_ne haw h0 (by simp))).trans haw, (mp_up_n (mp_ne has h0 (by simp))).trans has, (mp_up_n (mp_ne han h0 (by simp))).trans han, ?_, ?_, ?_, ?_⟩
  · exact fun i hi => by
      obtain ⟨a, h1, h2⟩ := hth i hi
      exact ⟨a, h1, (mp_up_n (mp_ne h2 h0 (by simp))).trans h2⟩
  · exact fun i hi => by
      obtain ⟨a, h1, h2⟩ := hsp i hi
      exact ⟨a, h1, (mp_up_n (mp_ne h2 h0 (by simp))).trans h2⟩
  · exact fun i hi => by
      rcases hsn i hi with ⟨h1, h1'⟩ | ⟨h1, h2, cn, g, h3, h4, h5, h6⟩
      · exact Or.inl ⟨h1, by omega⟩
      · exact Or.inr ⟨h1, h2, cn, g, (mp_up_n (mp_ne h3 h0 (by simp))).trans h3, (mp_up_n (mp_ne h4 h0 (by simp))).trans h4, h5, fun h => h6 (by omega)⟩
  · exact hij
theorem DkX.fresh {k : Nat → ClassId} {M : mp_M} {d av ak at_ aw as_ an : Nat} {qt qs qn : Nat → Option Nat} {sa ra : Nat → Nat} {ec tc wc sc nc : Nat} {va : Nat → Int64} {kd wt tk tf tz sk sf sw sl nn : Nat → Nat} {nv : Nat → Nat → Int64} (q : Nat) (e : va_E) (hq : M q = none) (h : DkX k M d av ak at_ aw as_ an qt qs qn sa ra ec tc wc sc nc va kd wt tk tf tz sk sf sw sl nn nv) : DkX k (mp_up M q e) d av ak at_ aw as_ an qt qs qn sa ra ec tc wc sc nc va kd wt tk tf tz sk sf sw sl nn nv := by
  obtain ⟨h0, hav, hak, hat, haw, has, han, hth, hsp, hsn, hij⟩ := h
  have nq : ∀ {a : Nat} {x : va_E}, M a = some x → mp_up M q e a = some x := fun {a x} hx => (mp_up_n (fun z => by rw [z, hq] at hx; cases hx)).trans hx
  refine ⟨nq h0, nq hav, nq hak, nq hat, nq haw, nq has, nq han, ?_, ?_, ?_, ?_⟩
  · exact fun i hi => by
      obtain ⟨a, h1, h2⟩ := hth i hi
      exact ⟨a, h1, nq h2⟩
  · exact fun i hi => by
      obtain ⟨a, h1, h2⟩ := hsp i hi
      exact ⟨a, h1, nq h2⟩
  · exact fun i hi => by
      rcases hsn i hi with h1 | ⟨h1, h2, cn, g, h3, h4, h5⟩
      · exact Or.inl h1
      · exact Or.inr ⟨h1, h2, cn, g, nq h3, nq h4, h5⟩
  · exact hij
