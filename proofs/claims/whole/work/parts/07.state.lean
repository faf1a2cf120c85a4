/-! ## What a state of the two systems is -/
abbrev tys6 (k : Nat → ClassId) : List (ClassId × FieldType) := [(k 0, .int), (k 1, .long), (k 2, .object "PlaceDesk$Thing"), (k 3, .object "PlaceDesk$Spot"), (k 4, .object "PlaceDesk$Snapshot"), (k 5, .boolean)]
/-- a Nat function with one place changed -/
def nu (f : Nat → Nat) (j v : Nat) : Nat → Nat := fun i => if i = j then v else f i
theorem nu_s (f : Nat → Nat) (j v : Nat) : nu f j v j = v := if_pos rfl
theorem nu_n {f : Nat → Nat} {i j v : Nat} (h : i ≠ j) : nu f j v i = f i := if_neg h
theorem upd_nI (f : Nat → Nat) (j v : Nat) : upd (fun i => nI (f i)) j (nI v) = fun i => nI (nu f j v i) := by
  funext i
  by_cases h : i = j <;> simp [upd, nu, h]
theorem nz_nar {b : Nat} (h : b ≤ 1) : narrow .boolean (.int (nI b)) = .int (nI b) := by
  rcases (show b = 0 ∨ b = 1 by omega) with rfl | rfl <;> rfl
theorem nz_fit {b : Nat} (h : b ≤ 1) : fits .boolean (.int (nI b)) = true := by
  rcases (show b = 0 ∨ b = 1 by omega) with rfl | rfl <;> rfl
theorem nz_vp {b : Nat} (h : b ≤ 1) : vp_nar .boolean (nI b) = nI b := by
  rcases (show b = 0 ∨ b = 1 by omega) with rfl | rfl <;> rfl
theorem i32_bd (x : Int32) : -2147483648 ≤ x.toInt ∧ x.toInt < 2147483648 := ⟨Int32.le_toInt x, Int32.toInt_lt x⟩
/-- an int that is no less than 0 is a Nat's -/
theorem i32_nat {x : Int32} (h : 0 ≤ x.toInt) : ∃ n : Nat, n < 2147483648 ∧ x = nI n ∧ x.toInt = (n : Int) := by
  obtain ⟨n, hn, e⟩ := nI_of (x := x) (fun q => by rw [Int32.lt_iff_toInt_lt] at q; have : (0 : Int32).toInt = 0 := rfl; omega)
  exact ⟨n, hn, e, by rw [e]; exact nI_toInt hn⟩
theorem mp_upup (M : mp_M) (a : Nat) (x y : va_E) : mp_up (mp_up M a x) a y = mp_up M a y := by
  funext q
  by_cases h : q = a <;> simp [mp_up, h]
theorem mp_upself {M : mp_M} {a : Nat} {x : va_E} (h : M a = some x) : mp_up M a x = M := by
  funext q
  by_cases e : q = a
  · rw [e, mp_up_s, h]
  · exact mp_up_n e
section MPL
variable {p : Program} {l : Launch} {e : Env} {R : Room} {s : State} {m : MethodId} {args : Array Value} {below : List Frame} {meth : Method} {c : Code} {H : Heap} {locs : List Loc} {cells slots : Nat} {Q : State → Prop}
variable {pc : Nat} {ls : Array Slot} {D : va_G} {cl : List vw_C} {A : Nat → Prop} {tys : List (ClassId × FieldType)} {H0 : Heap}
/-- a loop whose locals and map are functions of its counter -/
theorem mp_loop (N nL : Nat) (lvf : Nat → List (Nat × Value)) (Mf : Nat → mp_M) (i0 : Nat) (h0 : i0 ≤ N) (hl : lv_has ls nL (lvf i0)) (I : mp_I D cl tys s A H0 H locs (Mf i0))
    (step : ∀ (i : Nat) (H : Heap) (locs : List Loc) (ls : Array Slot), i0 ≤ i → i ≤ N → lv_has ls nL (lvf i) → mp_I D cl tys s A H0 H locs (Mf i) →
      (∀ (H1 : Heap) (locs1 : List Loc) (ls1 : Array Slot), i < N → lv_has ls1 nL (lvf (i + 1)) → mp_I D cl tys s A H0 H1 locs1 (Mf (i + 1)) → W p l e R s m args below meth c H1 locs1 cells slots Q (F0 m pc ls1 [])) →
      W p l e R s m args below meth c H locs cells slots Q (F0 m pc ls [])) : W p l e R s m args below meth c H locs cells slots Q (F0 m pc ls []) := by
  have key : ∀ (n i : Nat) (H : Heap) (locs : List Loc) (ls : Array Slot), i0 ≤ i → i ≤ N → N ≤ i + n → lv_has ls nL (lvf i) → mp_I D cl tys s A H0 H locs (Mf i) → W p l e R s m args below meth c H locs cells slots Q (F0 m pc ls []) := by
    intro n
    induction n with
    | zero => exact fun i H locs ls h1 h2 h3 hl I => step i H locs ls h1 h2 hl I (fun _ _ _ h => absurd h (by omega))
    | succ n ih => exact fun i H locs ls h1 h2 h3 hl I => step i H locs ls h1 h2 hl I (fun H1 locs1 ls1 h hl1 I1 => ih (i + 1) H1 locs1 ls1 (by omega) h (by omega) hl1 I1)
  exact key N i0 H locs ls (Nat.le_refl _) h0 (by omega) hl I
end MPL
/-- how many of the first n values differ -/
def dif (f g : Nat → Int64) : Nat → Nat
  | 0 => 0
  | n + 1 => dif f g n + (if f n = g n then 0 else 1)
theorem dif_le (f g : Nat → Int64) (n : Nat) : dif f g n ≤ n := by
  induction n with
  | zero => exact Nat.le_refl 0
  | succ n ih =>
    show dif f g n + _ ≤ n + 1
    split <;> omega
