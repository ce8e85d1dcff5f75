-- numbers of the law's own methods
abbrev shr (x y : Int32) : Int32 := x >>> (y &&& 31)
/-- a window less one, and k more -/
def cO (w k : Nat) : Int32 := nI w - 1 + nI k
theorem cO_0 (w : Nat) : nI w - 1 = cO w 0 := (Int32.add_zero _).symm
theorem cO_1 (w k : Nat) : cO w k + Int32.ofInt 1 = cO w (k + 1) := by
  unfold cO
  rw [Int32.add_assoc]
  exact congrArg (nI w - 1 + ·) (nI_1 k)
theorem cO_int {w k : Nat} (hw : w < 1000) (hk : k < 1000) : (cO w k).toInt = (w : Int) + k - 1 := by
  have e1 : (nI w).toInt = w := nI_toInt (by omega)
  have e2 : (nI k).toInt = k := nI_toInt (by omega)
  have e3 : (1 : Int32).toInt = 1 := rfl
  have e4 : (nI w - 1).toInt = (w : Int) - 1 := by rw [i_sub (by rw [e1, e3]; omega) (by rw [e1, e3]; omega), e1, e3]
  unfold cO
  rw [i_add (by rw [e4, e2]; omega) (by rw [e4, e2]; omega), e4, e2]
  omega
theorem cO_end {w : Nat} (hw : w < 10) : nI (w + 1) < cO w 3 := by
  rw [i_lt, cO_int (by omega) (by omega), nI_toInt (by omega)]
  omega
theorem cO_in {w k : Nat} (hw : w < 10) (hk : k < 3) : ¬ nI (w + 1) < cO w k := by
  rw [i_lt, cO_int (by omega) (by omega), nI_toInt (by omega)]
  omega
theorem cO_rng {w k : Nat} (hw : w < 10) (hk : k < 3) (h1 : ¬ cO w k < 0) (h2 : ¬ 10 ≤ cO w k) : 1 ≤ w + k ∧ w + k - 1 < 10 := by
  have e0 : (0 : Int32).toInt = 0 := rfl
  have e10 : (10 : Int32).toInt = 10 := rfl
  rw [i_lt, cO_int (by omega) (by omega), e0] at h1
  rw [i_le, cO_int (by omega) (by omega), e10] at h2
  omega
theorem cO_nat {w k : Nat} (hw : w < 10) (hk : k < 3) (h1 : 1 ≤ w + k) : cO w k = nI (w + k - 1) := by
  rw [i_eq, cO_int (by omega) (by omega), nI_toInt (by omega)]
  omega
/-- what the law's 'below' makes of a number -/
def bl (v : Int32) (n : Nat) : Nat := (v &&& 2147483647).toNatClampNeg % n
theorem bl_lt (v : Int32) {n : Nat} (h : 0 < n) : bl v n < n := Nat.mod_lt _ h
theorem bl_eq (v : Int32) {n : Nat} (h : 0 < n) (hn : n < 2 ^ 31) : rmd (v &&& 2147483647) (nI n) = nI (bl v n) := by
  obtain ⟨j, hj, e⟩ := pk_andE v (m := 2147483647) 31 rfl
  have h1 : (v &&& 2147483647).toNatClampNeg = j := by rw [e]; exact nI_clamp hj
  unfold bl
  rw [h1, e]
  exact pk_rem hj h hn
/-- of the picture of the rows: windows are columns, guests' rooms are rooms -/
def SI (R G : Nat) (sr sg : Nat → Nat → Int32) : Prop := (∀ j, j < R → ∃ w, w < 10 ∧ sr j 0 = nI w) ∧ ∀ g, g < G → ∃ r, r < R ∧ sg g 0 = nI r
/-- the number that a small one stands for -/
def tn (x : Int32) : Nat := x.toNatClampNeg
theorem SI.win {R G : Nat} {sr sg : Nat → Nat → Int32} (h : SI R G sr sg) {j : Nat} (hj : j < R) : sr j 0 = nI (tn (sr j 0)) ∧ tn (sr j 0) < 10 := by
  obtain ⟨w, hw, e⟩ := h.1 j hj
  unfold tn
  rw [e, nI_clamp (by omega)]
  exact ⟨rfl, hw⟩
theorem SI.rm {R G : Nat} {sr sg : Nat → Nat → Int32} (hR : R ≤ 6) (h : SI R G sr sg) {g : Nat} (hg : g < G) : sg g 0 = nI (tn (sg g 0)) ∧ tn (sg g 0) < R := by
  obtain ⟨r, hr, e⟩ := h.2 g hg
  unfold tn
  rw [e, nI_clamp (by omega)]
  exact ⟨rfl, hr⟩
theorem SI.up {R G : Nat} {sr sg : Nat → Nat → Int32} (h : SI R G sr sg) {g k : Nat} (v : Int32) (hk : 0 < k) : SI R G sr (up2 sg g k v) := ⟨h.1, fun i hi => by rw [up2_k _ _ _ _ (Nat.ne_of_lt hk)]; exact h.2 i hi⟩
