/-! ## What the class and the reference say of values is the same -/
def lbm (x i : Nat) : Bool := if x = 1 then decide (i < 1) else if x = 4 then decide (i < 16) else true
def lbi (x i : Nat) : Nat := if x = 2 ∧ 8 ≤ i then 7 else if x = 3 ∧ 16 ≤ i then 15 else if x = 5 ∧ 32 ≤ i then 31 else i
theorem lm_1 : ∀ i, i < 64 → (1 : Int64).toBitVec.getLsbD i = decide (i < 1) := by decide +kernel
theorem lm_c : ∀ i, i < 64 → (65535 : Int64).toBitVec.getLsbD i = decide (i < 16) := by decide +kernel
theorem sx_lo {w v : Nat} (x : BitVec w) {i : Nat} (hi : i < v) (h : i < w) : (x.signExtend v).getLsbD i = x.getLsbD i := by
  rw [BitVec.getLsbD_signExtend, decide_eq_true hi, Bool.true_and, if_pos h]
theorem sx_hi {w v : Nat} (x : BitVec w) {i : Nat} (hi : i < v) (h : ¬ i < w) : (x.signExtend v).getLsbD i = x.getLsbD (w - 1) := by
  rw [BitVec.getLsbD_signExtend, decide_eq_true hi, Bool.true_and, BitVec.msb_eq_getLsbD_last, if_neg h]
theorem lb_bit (x : Nat) (a : Int64) {i : Nat} (hi : i < 64) : (lb x a).toBitVec.getLsbD i = (lbm x i && a.toBitVec.getLsbD (lbi x i)) := by
  unfold lb lbm lbi
  by_cases h1 : x = 1
  · subst h1
    rw [if_pos rfl, if_pos rfl, if_neg (by omega), if_neg (by omega), if_neg (by omega), Int64.toBitVec_and, BitVec.getLsbD_and, lm_1 i hi, Bool.and_comm]
  rw [if_neg h1, if_neg h1]
  by_cases h2 : x = 2
  · subst h2
    rw [if_pos rfl, if_neg (by omega), Bool.true_and, Int32.toBitVec_toInt64, Int8.toBitVec_toInt32, Int32.toBitVec_toInt8, Int64.toBitVec_toInt32]
    by_cases h8 : i < 8
    · rw [if_neg (by omega), if_neg (by omega), if_neg (by omega), sx_lo _ hi (by omega), sx_lo _ (by omega) h8, sx_lo _ h8 (by omega), sx_lo _ (by omega) hi]
    · have e : (BitVec.signExtend 8 (BitVec.signExtend 32 a.toBitVec)).getLsbD (8 - 1) = a.toBitVec.getLsbD 7 := by rw [sx_lo _ (by omega) (by omega), sx_lo _ (by omega) (by omega)]
      rw [if_pos (by omega), ← e]
      by_cases h32 : i < 32
      · rw [sx_lo _ hi h32, sx_hi _ h32 h8]
      · rw [sx_hi _ hi h32, sx_hi _ (by omega) (by omega)]
  rw [if_neg h2]
  by_cases h3 : x = 3
  · subst h3
    rw [if_pos rfl, if_neg (by omega), Bool.true_and, Int32.toBitVec_toInt64, Int16.toBitVec_toInt32, Int32.toBitVec_toInt16, Int64.toBitVec_toInt32]
    by_cases h8 : i < 16
    · rw [if_neg (by omega), if_neg (by omega), if_neg (by omega), sx_lo _ hi (by omega), sx_lo _ (by omega) h8, sx_lo _ h8 (by omega), sx_lo _ (by omega) hi]
    · have e : (BitVec.signExtend 16 (BitVec.signExtend 32 a.toBitVec)).getLsbD (16 - 1) = a.toBitVec.getLsbD 15 := by rw [sx_lo _ (by omega) (by omega), sx_lo _ (by omega) (by omega)]
      rw [if_neg (by omega), if_pos (by omega), ← e]
      by_cases h32 : i < 32
      · rw [sx_lo _ hi h32, sx_hi _ h32 h8]
      · rw [sx_hi _ hi h32, sx_hi _ (by omega) (by omega)]
  rw [if_neg h3]
  by_cases h4 : x = 4
  · subst h4
    rw [if_pos rfl, if_pos rfl, if_neg (by omega), if_neg (by omega), if_neg (by omega), Int64.toBitVec_and, BitVec.getLsbD_and, lm_c i hi, Bool.and_comm]
  rw [if_neg h4, if_neg h4, Bool.true_and, if_neg (show ¬ (x = 2 ∧ 8 ≤ i) by omega), if_neg (show ¬ (x = 3 ∧ 16 ≤ i) by omega)]
  by_cases h5 : x = 5
  · subst h5
    rw [if_pos rfl, Int32.toBitVec_toInt64, Int64.toBitVec_toInt32]
    by_cases h32 : i < 32
    · rw [if_neg (by omega), sx_lo _ hi h32, sx_lo _ h32 hi]
    · rw [if_pos (by omega), sx_hi _ hi h32, sx_lo _ (by omega) (by omega)]
  rw [if_neg h5, if_neg (by omega)]
theorem l_ext {x y : Int64} (h : ∀ i, i < 64 → x.toBitVec.getLsbD i = y.toBitVec.getLsbD i) : x = y := Int64.toBitVec_inj.mp (BitVec.eq_of_getLsbD_eq (fun i hi => h i hi))
theorem lb_and {x : Nat} {a b : Int64} (ha : lb x a = a) (hb : lb x b = b) : lb x (a &&& b) = a &&& b := by
  have e : lb x (a &&& b) = lb x a &&& lb x b := by
    apply l_ext
    intro i hi
    rw [lb_bit x _ hi, Int64.toBitVec_and, BitVec.getLsbD_and, Int64.toBitVec_and, BitVec.getLsbD_and, lb_bit x _ hi, lb_bit x _ hi]
    cases lbm x i <;> simp
  rw [e, ha, hb]
theorem lb_or {x : Nat} {a b : Int64} (ha : lb x a = a) (hb : lb x b = b) : lb x (a ||| b) = a ||| b := by
  have e : lb x (a ||| b) = lb x a ||| lb x b := by
    apply l_ext
    intro i hi
    rw [lb_bit x _ hi, Int64.toBitVec_or, BitVec.getLsbD_or, Int64.toBitVec_or, BitVec.getLsbD_or, lb_bit x _ hi, lb_bit x _ hi]
    cases lbm x i <;> simp
  rw [e, ha, hb]
theorem lbi_i (x i : Nat) : lbi x (lbi x i) = lbi x i := by
  unfold lbi
  by_cases h2 : x = 2 <;> by_cases h3 : x = 3 <;> by_cases h5 : x = 5 <;> by_cases h8 : 8 ≤ i <;> by_cases h16 : 16 ≤ i <;> by_cases h32 : 32 ≤ i <;> first | (exfalso; omega) | simp [h2, h3, h5, h8, h16, h32]
theorem lbi_m (x i : Nat) : lbm x (lbi x i) = lbm x i := by
  by_cases h1 : x = 1
  · subst h1; rfl
  by_cases h4 : x = 4
  · subst h4; rfl
  simp [lbm, h1, h4]
theorem lbi_lt (x : Nat) {i : Nat} (h : i < 64) : lbi x i < 64 := by
  unfold lbi
  split
  · omega
  · split
    · omega
    · split <;> omega
theorem lb_lb (x : Nat) (a : Int64) : lb x (lb x a) = lb x a := by
  apply l_ext
  intro i hi
  rw [lb_bit x _ hi, lb_bit x _ (lbi_lt x hi), lb_bit x _ hi, lbi_i, lbi_m, ← Bool.and_assoc, Bool.and_self]
theorem lb_7 (a : Int64) : lb 7 a = a := rfl
theorem lb_0 {x : Nat} (h1 : 1 ≤ x) (h7 : x ≤ 7) : lb x 0 = 0 := by
  rcases (show x = 1 ∨ x = 2 ∨ x = 3 ∨ x = 4 ∨ x = 5 ∨ x = 6 ∨ x = 7 by omega) with rfl | rfl | rfl | rfl | rfl | rfl | rfl <;> rfl
/-- all that the law keeps of the numbers of both -/
def LI (ec tc wc sc nc : Nat) (va mk : Nat → Int64) (kd wt tk tf tz sk sf sw sl ml nn : Nat → Nat) (nv : Nat → Nat → Int64) : Prop :=
  OkB ec tc wc sc nc tk tf tz sk sf sw sl nn ∧ OkB ec tc wc sc nc tk tf tz sk sf sw ml nn ∧
  (∀ i, i < ec → 1 ≤ kd i ∧ kd i ≤ 7) ∧ (∀ i, i < wc → 1 ≤ wt i ∧ wt i ≤ 7) ∧
  (∀ i, i < ec → lb (kd i) (va i) = va i) ∧
  (∀ i, i < tc → tk i ≠ 0 → ∀ j, j < tz i → kd (tf i + j) = tk i) ∧
  (∀ i, i < sc → (sw i = 1 ∧ kd (sf i) = sk i) ∨ (sw i ≠ 1 ∧ ∀ j, j < sw i → kd (sf i + j) = 2)) ∧
  (∀ i, i < nc → ∀ j, j < nn i → lb (kd j) (nv i j) = nv i j) ∧
  (∀ i, i < sc → sw i ≠ 1 → ml i = sl i) ∧
  (∀ i, i < nc → ∀ j, j < nn i → mk (4000 * i + j) = nv i j)
theorem LI.init : LI 0 0 0 0 0 (fun _ => 0) (fun _ => 0) (fun _ => 0) (fun _ => 0) (fun _ => 0) (fun _ => 0) (fun _ => 0) (fun _ => 0) (fun _ => 0) (fun _ => 0) (fun _ => 0) (fun _ => 0) (fun _ => 0) (fun _ _ => 0) := by
  refine ⟨⟨?_, ?_, ?_, ?_, ?_, ?_, ?_, ?_⟩, ⟨?_, ?_, ?_, ?_, ?_, ?_, ?_, ?_⟩, ?_, ?_, ?_, ?_, ?_, ?_, ?_, ?_⟩ <;> first | omega | exact fun i h => absurd h (by omega)
section LIR
variable {ec tc wc sc nc : Nat} {va mk : Nat → Int64} {kd wt tk tf tz sk sf sw sl ml nn : Nat → Nat} {nv : Nat → Nat → Int64}
theorem LI.put (h : LI ec tc wc sc nc va mk kd wt tk tf tz sk sf sw sl ml nn nv) {x : Nat} (hw : wc < 12) (h1 : 1 ≤ x) (h7 : x ≤ 7) : LI ec tc (wc + 1) sc nc va mk kd (nu wt wc x) tk tf tz sk sf sw sl ml nn nv := by
  obtain ⟨⟨o1, o2, o3, o4⟩, ⟨p1, p2, p3, p4⟩, hk, ht, hv, hT, hS, hN, hl, hm⟩ := h
  refine ⟨⟨o1, o2, by omega, o4⟩, ⟨p1, p2, by omega, p4⟩, hk, fun i hi => ?_, hv, hT, hS, hN, hl, hm⟩
  unfold nu
  split
  · omega
  · exact ht i (by omega)
theorem LI.w0 (h : LI ec tc wc sc nc va mk kd wt tk tf tz sk sf sw sl ml nn nv) : LI ec tc 0 sc nc va mk kd wt tk tf tz sk sf sw sl ml nn nv := by
  obtain ⟨⟨o1, o2, o3, o4⟩, ⟨p1, p2, p3, p4⟩, hk, ht, hv, hT, hS, hN, hl, hm⟩ := h
  exact ⟨⟨o1, o2, by omega, o4⟩, ⟨p1, p2, by omega, p4⟩, hk, fun i hi => absurd hi (by omega), hv, hT, hS, hN, hl, hm⟩
/-- a new object of n elements of the kinds kd2 -/
theorem LI.obj (h : LI ec tc wc sc nc va mk kd wt tk tf tz sk sf sw sl ml nn nv) {n wc2 x : Nat} {kd2 : Nat → Nat} (ht3 : tc < 300) (hn : n ≤ 200) (hn2 : ec + n ≤ 4000) (hx : x ≤ 7) (hwc : wc2 ≤ wc)
    (hk1 : ∀ j, j < ec → kd2 j = kd j) (hk2 : ∀ j, ec ≤ j → j < ec + n → (1 ≤ kd2 j ∧ kd2 j ≤ 7) ∧ (x ≠ 0 → kd2 j = x)) : LI (ec + n) (tc + 1) wc2 sc nc (vin va kd2 ec (ec + n)) mk kd2 wt (nu tk tc x) (nu tf tc ec) (nu tz tc n) sk sf sw sl ml nn nv := by
  obtain ⟨⟨o1, o2, o3, o4, o5, oT, oS, oN⟩, ⟨p1, p2, p3, p4, p5, pT, pS, pN⟩, hk, ht, hv, hT, hS, hN, hl, hm⟩ := h
  have aT : ∀ i, i < tc + 1 → nu tk tc x i ≤ 7 ∧ nu tz tc n i ≤ 200 ∧ nu tf tc ec i + nu tz tc n i ≤ ec + n := fun i hi => by
    by_cases e : i = tc
    · subst e; rw [nu_s, nu_s, nu_s]; omega
    · rw [nu_n e, nu_n e, nu_n e]; have := oT i (by omega); omega
  refine ⟨⟨hn2, by omega, by omega, o4, o5, aT, fun i hi => by have := oS i hi; omega, fun i hi => by have := oN i hi; omega⟩, ⟨hn2, by omega, by omega, p4, p5, aT, fun i hi => by have := pS i hi; omega, fun i hi => by have := pN i hi; omega⟩, fun i hi => ?_, fun i hi => ht i (by omega), fun i hi => ?_, fun i hi hx0 j hj => ?_, fun i hi => ?_, fun i hi j hj => ?_, hl, hm⟩
  · rcases Nat.lt_or_ge i ec with g | g
    · rw [hk1 i g]; exact hk i g
    · exact (hk2 i g hi).1
  · unfold vin
    rcases Nat.lt_or_ge i ec with g | g
    · rw [if_neg (by omega), hk1 i g]; exact hv i g
    · rw [if_pos ⟨g, hi⟩]
      by_cases g7 : kd2 i = 7
      · rw [if_pos g7, g7]; rfl
      · rw [if_neg g7]; exact lb_0 (hk2 i g hi).1.1 (hk2 i g hi).1.2
  · by_cases e : i = tc
    · subst e
      rw [nu_s] at hx0 hj ⊢
      rw [nu_s]
      exact (hk2 _ (by omega) (by omega)).2 hx0
    · rw [nu_n e] at hx0 hj ⊢
      rw [nu_n e]
      have := oT i (by omega)
      rw [hk1 _ (by omega)]
      exact hT i (by omega) hx0 j hj
  · have := oS i hi
    rcases hS i hi with ⟨g1, g2⟩ | ⟨g1, g2⟩
    · exact Or.inl ⟨g1, by rw [hk1 _ (by omega)]; exact g2⟩
    · exact Or.inr ⟨g1, fun j hj => by rw [hk1 _ (by omega)]; exact g2 j hj⟩
  · have := oN i hi
    rw [hk1 _ (by omega)]
    exact hN i hi j hj
theorem LI.row (h : LI ec tc wc sc nc va mk kd wt tk tf tz sk sf sw sl ml nn nv) {n x : Nat} (ht3 : tc < 300) (hn : n ≤ 200) (hn2 : n + ec ≤ 4000) (hx : x ≤ 7) (hx1 : 1 ≤ x) : LI (ec + n) (tc + 1) wc sc nc (vin va (kfl kd ec n x) ec (ec + n)) mk (kfl kd ec n x) wt (nu tk tc x) (nu tf tc ec) (nu tz tc n) sk sf sw sl ml nn nv :=
  LI.obj h ht3 hn (by omega) hx (Nat.le_refl _) (fun j hj => by unfold kfl; rw [if_neg (by omega)]) (fun j h1 h2 => by unfold kfl; rw [if_pos ⟨h1, h2⟩]; exact ⟨⟨hx1, hx⟩, fun _ => rfl⟩)
theorem LI.inst (h : LI ec tc wc sc nc va mk kd wt tk tf tz sk sf sw sl ml nn nv) (ht3 : tc < 300) (hn2 : wc + ec ≤ 4000) : LI (ec + wc) (tc + 1) 0 sc nc (vin va (va_cpy wt kd 0 ec wc) ec (ec + wc)) mk (va_cpy wt kd 0 ec wc) wt (nu tk tc 0) (nu tf tc ec) (nu tz tc wc) sk sf sw sl ml nn nv :=
  LI.obj h ht3 (by have := h.1.2.2.1; omega) (by omega) (by omega) (Nat.zero_le _) (fun j hj => by unfold va_cpy; rw [if_neg (by omega)]) (fun j h1 h2 => by unfold va_cpy; rw [if_pos ⟨h1, h2⟩]; exact ⟨h.2.2.2.1 _ (by omega), fun q => absurd rfl q⟩)
/-- a new place -/
theorem LI.spot (h : LI ec tc wc sc nc va mk kd wt tk tf tz sk sf sw sl ml nn nv) {x f w a b : Nat} (hs : sc < 100) (h1 : 1 ≤ x) (h7 : x ≤ 7) (w1 : 1 ≤ w) (w8 : w ≤ 8) (hf : f + w ≤ ec) (ha : a ≤ 1) (hb : b ≤ 1) (hab : w ≠ 1 → b = a) (hk0 : (w = 1 ∧ kd f = x) ∨ (w ≠ 1 ∧ ∀ j, j < w → kd (f + j) = 2)) : LI ec tc wc (sc + 1) nc va mk kd wt tk tf tz (nu sk sc x) (nu sf sc f) (nu sw sc w) (nu sl sc a) (nu ml sc b) nn nv := by
  obtain ⟨⟨o1, o2, o3, o4, o5, oT, oS, oN⟩, ⟨p1, p2, p3, p4, p5, pT, pS, pN⟩, hk, ht, hv, hT, hS, hN, hl, hm⟩ := h
  refine ⟨⟨o1, o2, o3, by omega, o5, oT, fun i hi => ?_, oN⟩, ⟨p1, p2, p3, by omega, p5, pT, fun i hi => ?_, pN⟩, hk, ht, hv, hT, fun i hi => ?_, hN, fun i hi hw => ?_, hm⟩
  · by_cases e : i = sc
    · subst e; rw [nu_s, nu_s, nu_s, nu_s]; omega
    · rw [nu_n e, nu_n e, nu_n e, nu_n e]; exact oS i (by omega)
  · by_cases e : i = sc
    · subst e; rw [nu_s, nu_s, nu_s, nu_s]; omega
    · rw [nu_n e, nu_n e, nu_n e, nu_n e]; exact pS i (by omega)
  · by_cases e : i = sc
    · subst e; rw [nu_s, nu_s, nu_s]; exact hk0
    · rw [nu_n e, nu_n e, nu_n e]; exact hS i (by omega)
  · by_cases e : i = sc
    · subst e; rw [nu_s] at hw; rw [nu_s, nu_s]; exact hab hw
    · rw [nu_n e] at hw; rw [nu_n e, nu_n e]; exact hl i (by omega) hw
theorem LI.place (h : LI ec tc wc sc nc va mk kd wt tk tf tz sk sf sw sl ml nn nv) {i y : Nat} (hs : sc < 100) (hi : i < tc) (hy : y < tz i) : LI ec tc wc (sc + 1) nc va mk kd wt tk tf tz (nu sk sc (kd (tf i + y))) (nu sf sc (tf i + y)) (nu sw sc 1) (nu sl sc 0) (nu ml sc 1) nn nv := by
  have hT := h.1.2.2.2.2.2.1 i hi
  have hk := h.2.2.1 (tf i + y) (by omega)
  exact LI.spot h hs hk.1 hk.2 (by omega) (by omega) (by omega) (by omega) (by omega) (fun q => absurd rfl q) (Or.inl ⟨rfl, rfl⟩)
theorem LI.view (h : LI ec tc wc sc nc va mk kd wt tk tf tz sk sf sw sl ml nn nv) {i y z b : Nat} (hs : sc < 100) (hi : i < tc) (hk2 : tk i = 2) (hz : wv z ≠ 0) (hy : y + wv z ≤ tz i) (hb : b ≤ 1) : LI ec tc wc (sc + 1) nc va mk kd wt tk tf tz (nu sk sc z) (nu sf sc (tf i + y)) (nu sw sc (wv z)) (nu sl sc b) (nu ml sc b) nn nv := by
  have hT := h.1.2.2.2.2.2.1 i hi
  have hB := h.2.2.2.2.2.1 i hi (by omega)
  have hw : 1 < wv z ∧ wv z ≤ 8 ∧ 1 ≤ z ∧ z ≤ 7 := by
    unfold wv at hz ⊢
    by_cases e1 : (z : Int) = 3 ∨ (z : Int) = 4
    · rw [if_pos e1]; omega
    · rw [if_neg e1] at hz ⊢
      by_cases e2 : (z : Int) = 5
      · rw [if_pos e2]; omega
      · rw [if_neg e2] at hz ⊢
        by_cases e3 : (z : Int) = 6
        · rw [if_pos e3]; omega
        · rw [if_neg e3] at hz; exact absurd rfl hz
  exact LI.spot h hs hw.2.2.1 hw.2.2.2 (by omega) hw.2.1 (by omega) hb hb (fun _ => rfl) (Or.inr ⟨by omega, fun j hj => by rw [Nat.add_assoc, hB _ (by omega), hk2]⟩)
/-- new values, as valid as the old -/
theorem LI.vals (h : LI ec tc wc sc nc va mk kd wt tk tf tz sk sf sw sl ml nn nv) {va2 : Nat → Int64} (hv : ∀ i, i < ec → lb (kd i) (va2 i) = va2 i) : LI ec tc wc sc nc va2 mk kd wt tk tf tz sk sf sw sl ml nn nv := by
  obtain ⟨h1, h2, h3, h4, -, h6⟩ := h
  exact ⟨h1, h2, h3, h4, hv, h6⟩
theorem LI.copy (h : LI ec tc wc sc nc va mk kd wt tk tf tz sk sf sw sl ml nn nv) {i j a b n : Nat} (hi : i < tc) (hj : j < tc) (h0 : tk i ≠ 0) (he : tk i = tk j) (ha : a + n ≤ tz i) (hb : b + n ≤ tz j) : LI ec tc wc sc nc (va_cpy va va (tf i + a) (tf j + b) n) mk kd wt tk tf tz sk sf sw sl ml nn nv := by
  refine h.vals (fun q hq => ?_)
  have hv := h.2.2.2.2.1
  have hT := h.2.2.2.2.2.1
  have b1 := h.1.2.2.2.2.2.1 i hi
  unfold va_cpy
  by_cases g : tf j + b ≤ q ∧ q < tf j + b + n
  · rw [if_pos g]
    have e1 := hT i hi h0 (a + (q - (tf j + b))) (by omega)
    have e2 := hT j hj (by omega) (b + (q - (tf j + b))) (by omega)
    rw [show tf j + (b + (q - (tf j + b))) = q by omega] at e2
    rw [← Nat.add_assoc] at e1
    rw [e2, ← he, ← e1]
    exact hv _ (by omega)
  · rw [if_neg g]; exact hv q hq
theorem LI.mark (h : LI ec tc wc sc nc va mk kd wt tk tf tz sk sf sw sl ml nn nv) (hn : nc < 20) : LI ec tc wc sc (nc + 1) va (va_cpy va mk 0 (4000 * nc) ec) kd wt tk tf tz sk sf sw sl ml (nu nn nc ec) (fun i => if i = nc then va else nv i) := by
  obtain ⟨⟨o1, o2, o3, o4, o5, oT, oS, oN⟩, ⟨p1, p2, p3, p4, p5, pT, pS, pN⟩, hk, ht, hv, hT, hS, hN, hl, hm⟩ := h
  have aN : ∀ i, i < nc + 1 → nu nn nc ec i ≤ ec := fun i hi => by
    by_cases e : i = nc
    · subst e; rw [nu_s]; omega
    · rw [nu_n e]; exact oN i (by omega)
  refine ⟨⟨o1, o2, o3, o4, by omega, oT, oS, aN⟩, ⟨p1, p2, p3, p4, by omega, pT, pS, aN⟩, hk, ht, hv, hT, hS, fun i hi j hj => ?_, hl, fun i hi j hj => ?_⟩
  · have := aN i hi
    dsimp only
    by_cases e : i = nc
    · rw [if_pos e]; exact hv j (by omega)
    · rw [if_neg e]; rw [nu_n e] at hj; exact hN i (by omega) j hj
  · have := aN i hi
    dsimp only
    unfold va_cpy
    by_cases e : i = nc
    · subst e; rw [if_pos rfl, if_pos (by omega)]; congr 1; omega
    · rw [if_neg e, if_neg (by omega)]; rw [nu_n e] at hj; exact hm i (by omega) j hj
theorem LI.back (h : LI ec tc wc sc nc va mk kd wt tk tf tz sk sf sw sl ml nn nv) {i : Nat} (hi : i < nc) : LI ec tc wc sc (i + 1) (vbk va (nv i) (nn i)) mk kd wt tk tf tz sk sf sw sl ml nn nv := by
  obtain ⟨⟨o1, o2, o3, o4, o5, oT, oS, oN⟩, ⟨p1, p2, p3, p4, p5, pT, pS, pN⟩, hk, ht, hv, hT, hS, hN, hl, hm⟩ := h
  refine ⟨⟨o1, o2, o3, o4, by omega, oT, oS, fun i hi => oN i (by omega)⟩, ⟨p1, p2, p3, p4, by omega, pT, pS, fun i hi => pN i (by omega)⟩, hk, ht, fun j hj => ?_, hT, hS, fun i hi => hN i (by omega), hl, fun i hi => hm i (by omega)⟩
  unfold vbk
  split
  · exact hN i hi j (by assumption)
  · exact hv j hj
theorem LI.bk_eq (h : LI ec tc wc sc nc va mk kd wt tk tf tz sk sf sw sl ml nn nv) {i : Nat} (hi : i < nc) : vbk va (fun t => mk (4000 * i + t)) (nn i) = vbk va (nv i) (nn i) := by
  funext j
  unfold vbk
  split
  · exact h.2.2.2.2.2.2.2.2.2 i hi j (by assumption)
  · rfl
theorem LI.df_eq (h : LI ec tc wc sc nc va mk kd wt tk tf tz sk sf sw sl ml nn nv) {i : Nat} (hi : i < nc) : dif va (fun t => mk (4000 * i + t)) (nn i) = dif va (nv i) (nn i) :=
  dif_congr (fun j hj => h.2.2.2.2.2.2.2.2.2 i hi j hj)
/-- what a place holds is of its kind, and both read it alike -/
theorem LI.had (h : LI ec tc wc sc nc va mk kd wt tk tf tz sk sf sw sl ml nn nv) {i : Nat} (hi : i < sc) : lb (sk i) (rdv va (sk i) (sf i) (sw i) (sl i)) = rdv va (sk i) (sf i) (sw i) (sl i) := by
  unfold rdv
  have b := h.1.2.2.2.2.2.2.1 i hi
  rcases h.2.2.2.2.2.2.1 i hi with ⟨g1, g2⟩ | ⟨g1, g2⟩
  · rw [if_pos g1, ← g2]; exact h.2.2.2.2.1 _ (by omega)
  · rw [if_neg g1]; exact lb_lb _ _
theorem LI.rd_eq (h : LI ec tc wc sc nc va mk kd wt tk tf tz sk sf sw sl ml nn nv) {i : Nat} (hi : i < sc) : rdv va (sk i) (sf i) (sw i) (ml i) = rdv va (sk i) (sf i) (sw i) (sl i) := by
  by_cases g : sw i = 1
  · unfold rdv; rw [if_pos g, if_pos g]
  · rw [h.2.2.2.2.2.2.2.2.1 i hi g]
theorem LI.wr_eq (h : LI ec tc wc sc nc va mk kd wt tk tf tz sk sf sw sl ml nn nv) {i : Nat} (hi : i < sc) (o : Option Int64) : wro va (sf i) (sw i) (ml i) o = wro va (sf i) (sw i) (sl i) o := by
  by_cases g : sw i = 1
  · cases o
    · rfl
    · show wrv _ _ _ _ _ = wrv _ _ _ _ _
      unfold wrv; rw [if_pos g, if_pos g]
  · rw [h.2.2.2.2.2.2.2.2.1 i hi g]
theorem isv_lb {tc x : Nat} {v : Int64} (h : isv tc x v) : lb x v = v := by
  unfold isv at h
  split at h
  · rename_i e; rw [e]; rfl
  · exact h
theorem pm_pa {act : Int} {x : Nat} {had v w : Int64} (h1 : lb x had = had) (h2 : act ≠ 0 → lb x v = v) : pm act x had v w = pa act x had v w := by
  unfold pm pa
  by_cases e5 : act = 5
  · subst e5; simp [lb_and h1 (h2 (by decide))]
  · by_cases e6 : act = 6
    · subst e6; simp [lb_or h1 (h2 (by decide))]
    · simp [e5, e6]
/-- what an act writes is of the place's kind -/
theorem pa_ok {tc : Nat} {act : Int} {x : Nat} {had v w z : Int64} (h1 : lb x had = had) (h2 : act ≠ 0 → lb x v = v) (h3 : act = 3 → lb x w = w) (h : (pa act x had v w).2 = some z) : lb x z = z := by
  unfold pa at h
  by_cases e1 : act = 1
  · rw [if_pos e1] at h; cases h; exact h2 (by omega)
  rw [if_neg e1] at h
  by_cases e2 : act = 2
  · rw [if_pos e2] at h; cases h; exact h2 (by omega)
  rw [if_neg e2] at h
  by_cases e3 : act = 3
  · rw [if_pos e3] at h
    split at h
    · cases h; exact h3 e3
    · cases h
  rw [if_neg e3] at h
  by_cases e4 : act = 4
  · rw [if_pos e4] at h; cases h; exact lb_lb _ _
  rw [if_neg e4] at h
  by_cases e5 : act = 5
  · rw [if_pos e5] at h; cases h; exact lb_and h1 (h2 (by omega))
  rw [if_neg e5] at h
  by_cases e6 : act = 6
  · rw [if_pos e6] at h; cases h; exact lb_or h1 (h2 (by omega))
  rw [if_neg e6] at h
  by_cases e7 : act = 7
  · rw [if_pos e7] at h
    cases h
    split
    · exact h1
    · exact h2 (by omega)
  rw [if_neg e7] at h
  cases h
theorem wrF_ok {f wd b : Nat} {v : Int64} (hv : ∀ i, i < ec → lb (kd i) (va i) = va i) (h2 : ∀ j, j < wd → kd (f + j) = 2) : ∀ n, n ≤ wd → ∀ i, i < ec → lb (kd i) (wrF va f wd b v n i) = wrF va f wd b v n i := by
  intro n
  induction n with
  | zero => exact fun _ i hi => hv i hi
  | succ n ih =>
    intro hn i hi
    show lb (kd i) (vp_updL (wrF va f wd b v n) (ixb f wd b (wd - 1 - n)) (lb 2 (shv v n)) i) = vp_updL (wrF va f wd b v n) (ixb f wd b (wd - 1 - n)) (lb 2 (shv v n)) i
    unfold vp_updL
    by_cases e : i = ixb f wd b (wd - 1 - n)
    · rw [if_pos e]
      have : kd i = 2 := by
        rw [e]
        unfold ixb
        split
        · exact h2 _ (by omega)
        · have := h2 (wd - 1 - (wd - 1 - n)) (by omega)
          rw [show f + wd - 1 - (wd - 1 - n) = f + (wd - 1 - (wd - 1 - n)) by omega]
          exact this
      rw [this]
      exact lb_lb _ _
    · rw [if_neg e]
      exact ih (by omega) i hi
theorem LI.wrs (h : LI ec tc wc sc nc va mk kd wt tk tf tz sk sf sw sl ml nn nv) {i : Nat} (hi : i < sc) (o : Option Int64) (ho : ∀ z, o = some z → lb (sk i) z = z) : LI ec tc wc sc nc (wro va (sf i) (sw i) (sl i) o) mk kd wt tk tf tz sk sf sw sl ml nn nv := by
  cases o with
  | none => exact h
  | some z =>
    refine h.vals ?_
    show ∀ i_, i_ < ec → lb (kd i_) (wrv va (sf i) (sw i) (sl i) z i_) = wrv va (sf i) (sw i) (sl i) z i_
    unfold wrv
    rcases h.2.2.2.2.2.2.1 i hi with ⟨g1, g2⟩ | ⟨g1, g2⟩
    · rw [if_pos g1]
      intro q hq
      unfold vp_updL
      by_cases e : q = sf i
      · rw [if_pos e, e, g2]; exact ho z rfl
      · rw [if_neg e]; exact h.2.2.2.2.1 q hq
    · rw [if_neg g1]
      exact wrF_ok h.2.2.2.2.1 g2 _ (Nat.le_refl _)
/-- a good act: both answer alike, both hold the same after it -/
theorem LI.act (h : LI ec tc wc sc nc va mk kd wt tk tf tz sk sf sw sl ml nn nv) {x act : Int} {v w : Int64} (hg : gact tc sc sk x act v w) :
    LI ec tc wc sc nc (acv va sk sf sw sl x act v w) mk kd wt tk tf tz sk sf sw sl ml nn nv ∧
    (pm act (sk x.toNat) (rdv va (sk x.toNat) (sf x.toNat) (sw x.toNat) (ml x.toNat)) v w).1 = (acr va sk sf sw sl x act v w).1 ∧
    wro va (sf x.toNat) (sw x.toNat) (ml x.toNat) (pm act (sk x.toNat) (rdv va (sk x.toNat) (sf x.toNat) (sw x.toNat) (ml x.toNat)) v w).2 = acv va sk sf sw sl x act v w := by
  obtain ⟨g1, g2, g3, g4, g5⟩ := hg
  have hi : x.toNat < sc := by omega
  have e1 := h.had hi
  have e2 : act ≠ 0 → lb (sk x.toNat) v = v := fun q => isv_lb (g4 q)
  have e3 : act = 3 → lb (sk x.toNat) w = w := fun q => isv_lb (g5 q)
  have e4 : pm act (sk x.toNat) (rdv va (sk x.toNat) (sf x.toNat) (sw x.toNat) (ml x.toNat)) v w = acr va sk sf sw sl x act v w := by
    rw [h.rd_eq hi]; exact pm_pa e1 e2
  refine ⟨h.wrs hi _ (fun z hz => pa_ok (tc := tc) e1 e2 e3 hz), by rw [e4], by rw [e4, h.wr_eq hi]; rfl⟩
end LIR
