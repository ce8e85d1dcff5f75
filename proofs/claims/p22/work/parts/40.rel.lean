-- what class and model have in common: the contents of both, set side by side
theorem nar0 : vp_nar .boolean 0 = 0 := rfl
theorem nar1 : vp_nar .boolean 1 = 1 := rfl
theorem it_congr {σ : Type} {f g : Nat → σ → σ} (n k : Nat) (v : σ) (h : ∀ (j : Nat) (w : σ), k ≤ j → j < k + n → f j w = g j w) : it f n k v = it g n k v :=
  it_sim (P := fun _ a b => a = b) n k v v (fun j a b h1 h2 e => by rw [e]; exact h j b h1 h2) rfl
theorem it_add {σ : Type} (f : Nat → σ → σ) : ∀ (a b k : Nat) (v : σ), it f (a + b) k v = it f b (k + a) (it f a k v) := by
  intro a
  induction a with
  | zero => intro b k v; rw [Nat.zero_add]; rfl
  | succ a ih =>
    intro b k v
    rw [show a + 1 + b = (a + b) + 1 by omega]
    show it f (a + b) (k + 1) (f k v) = it f b (k + (a + 1)) (it f a (k + 1) (f k v))
    rw [ih, show k + 1 + a = k + (a + 1) by omega]
theorem it_cut {σ : Type} {f : Nat → σ → σ} {G N : Nat} {v : σ} (hG : G ≤ N) (h : ∀ (j : Nat) (w : σ), G ≤ j → j < N → f j w = w) : it f N 0 v = it f G 0 v := by
  obtain ⟨d, rfl⟩ : ∃ d, N = G + d := ⟨N - G, by omega⟩
  rw [it_add, it_congr (g := fun _ w => w) d (0 + G) _ (fun j w h1 h2 => h j w (by omega) (by omega))]
  exact it_fix (fun _ => rfl) _ _
def RH (fc eh : Nat → Int32) : Prop := ∀ i, i < 50 → fc i = eh i ∧ ∃ v, v ≤ 40 ∧ eh i = nI v
def RR (R : Nat) (fw fb ew el : Nat → Int32) : Prop := ∀ j, j < 6 → (j < R → fw j = ew j ∧ (∃ w, w < 10 ∧ ew j = nI w) ∧ fb j = el j ∧ (el j = 0 ∨ el j = 1)) ∧ (R ≤ j → fb j = 0)
def RG (R G : Nat) (gR gW gT gS gJ gY ep : Nat → Int32) : Prop := ∀ g, g < 12 → (g < G → gR g = ep (6 * g) ∧ (∃ r, r < R ∧ ep (6 * g) = nI r) ∧ gW g = ep (6 * g + 1) ∧ gJ g = ep (6 * g + 2) ∧ (ep (6 * g + 2) = 0 ∨ ep (6 * g + 2) = 1) ∧ gT g = ep (6 * g + 3) ∧ gS g = ep (6 * g + 4) ∧ ((ep (6 * g + 5) = 0 ∧ gY g = 1) ∨ (ep (6 * g + 5) = 1 ∧ gY g = 0 ∧ ep (6 * g + 2) = 0))) ∧ (G ≤ g → gT g = 0 ∧ gS g = 0 ∧ gJ g = 0 ∧ gY g = 0)
theorem RR.mi {R G : Nat} {fw fb ew el gR gW gT gS gJ gY ep : Nat → Int32} (hR : R ≤ 6) (hG : G ≤ 12) (h : RR R fw fb ew el) (h2 : RG R G gR gW gT gS gJ gY ep) : MI R G ew ep := by
  refine ⟨hR, hG, fun j hj => ?_, fun g hg => ?_⟩
  · obtain ⟨-, ⟨w, hw, e⟩, -⟩ := (h j (by omega)).1 hj
    rw [e, nI_clamp (by omega)]
    exact ⟨hw, rfl⟩
  · obtain ⟨-, ⟨w, hw, e⟩, -⟩ := (h2 g (by omega)).1 hg
    rw [e, nI_clamp (by omega)]
    exact ⟨hw, rfl⟩
-- cells
theorem ins1 {a b : Nat} (ha : a < 10) (hb : b < 5) : F_X1_isInside (nI a) (nI b) = 1 := by
  unfold F_X1_isInside
  rw [if_neg (nI_pos (by omega)), if_neg (show ¬ (10 : Int32) ≤ nI a from nI_ge (b := 10) ha (by omega)), if_neg (nI_pos (by omega)), if_neg (show ¬ (5 : Int32) ≤ nI b from nI_ge (b := 5) hb (by omega))]
theorem at_in {fc : Nat → Int32} {a b : Nat} (ha : a < 10) (hb : b < 5) : F_X1_at fc (nI a) (nI b) = fc (10 * b + a) := by
  unfold F_X1_at
  rw [ins1 ha hb, if_neg (by decide), ten_mul, nI_clamp (by omega)]
theorem put_in {fc : Nat → Int32} {a b : Nat} {m : Int32} (ha : a < 10) (hb : b < 5) : F_X1_put fc (nI a) (nI b) m = upd fc (10 * b + a) (mn m 40) := by
  unfold F_X1_put
  rw [ins1 ha hb, if_neg (by decide), ten_mul, nI_clamp (by omega)]
theorem mn_n {a b : Nat} (ha : a < 2 ^ 31) (hb : b < 2 ^ 31) : mn (nI a) (nI b) = nI (min a b) := by
  unfold mn
  by_cases h : b < a
  · rw [if_pos ((nI_ltI hb ha).mpr h), Nat.min_eq_right (by omega)]
  · rw [if_neg (fun q => h ((nI_ltI hb ha).mp q)), Nat.min_eq_left (by omega)]
theorem mn_c {a b : Nat} (ha : a < 2 ^ 31) (hb : b < 2 ^ 31) : mn (nI a) (nI b) = mn (nI b) (nI a) := by rw [mn_n ha hb, mn_n hb ha, Nat.min_comm]
-- lamps
theorem shine0 {fw fb : Nat → Int32} {x : Int32} : ∀ (n k : Nat), (∀ j, k ≤ j → j < k + n → fb j = 0) → L_X3_shineOn_2 fw fb x n k = 0 := by
  intro n
  induction n with
  | zero => intro k _; rfl
  | succ n ih =>
    intro k h
    unfold L_X3_shineOn_2
    rw [if_pos (h k (Nat.le_refl _) (by omega))]
    exact ih (k + 1) (fun j h1 h2 => h j (by omega) (by omega))
theorem lit_k {R : Nat} {fw fb ew el : Nat → Int32} {x : Int32} (hR : R ≤ 6) (h : RR R fw fb ew el) : ∀ (n k : Nat), k + n = R → L_X3_shineOn_2 fw fb x (6 - k) k = L_M_lit_2 ew el x n k := by
  intro n
  induction n with
  | zero =>
    intro k hk
    show _ = 0
    exact shine0 _ _ (fun j h1 h2 => (h j (by omega)).2 (by omega))
  | succ n ih =>
    intro k hk
    obtain ⟨h1, -, h3, h4⟩ := (h k (by omega)).1 (by omega)
    rw [show 6 - k = (6 - (k + 1)) + 1 by omega]
    unfold L_X3_shineOn_2 L_M_lit_2
    rw [h1, h3, ih (k + 1) (by omega)]
    rcases h4 with e | e <;> rw [e]
    · rw [if_pos rfl, if_neg (by decide)]
    · rw [if_neg (by decide), if_pos rfl]
theorem lit_eq {R : Nat} {fw fb ew el : Nat → Int32} (hR : R ≤ 6) (h : RR R fw fb ew el) (x : Int32) : F_X3_shineOn fw fb x = F_M_lit ew el R x := lit_k hR h R 0 (by omega)
theorem has3 {R : Nat} (hR : R ≤ 6) {r : Nat} (h : r < R) : F_X3_has (nI R) (nI r) = 1 := by
  unfold F_X3_has
  rw [if_neg (nI_pos (by omega)), if_neg (nI_ge h (by omega)), if_neg (show ¬ (6 : Int32) ≤ nI r from nI_ge (b := 6) (by omega) (by omega))]
theorem has0 {G : Nat} (hG : G ≤ 12) {g : Nat} (h : g < G) : F_X0_has (nI G) (nI g) = 1 := by
  unfold F_X0_has
  rw [if_neg (nI_pos (by omega)), if_neg (nI_ge h (by omega)), if_neg (show ¬ (12 : Int32) ≤ nI g from nI_ge (b := 12) (by omega) (by omega))]
theorem has0n {G : Nat} (hG : G ≤ 12) {g : Nat} (hg : g < 12) (h : G ≤ g) : F_X0_has (nI G) (nI g) = 0 := by
  unfold F_X0_has
  rw [if_neg (nI_pos (by omega)), if_pos (nI_le h (by omega))]
theorem has3n {R : Nat} (hR : R ≤ 6) {r : Nat} (hr : r < 6) (h : R ≤ r) : F_X3_has (nI R) (nI r) = 0 := by
  unfold F_X3_has
  rw [if_neg (nI_pos (by omega)), if_pos (nI_le h (by omega))]
theorem burn_eq {R : Nat} {fw fb ew el : Nat → Int32} (hR : R ≤ 6) (h : RR R fw fb ew el) {r : Nat} (hr : r < R) : F_X3_isBurning (nI R) fb (nI r) = el r := by
  unfold F_X3_isBurning
  obtain ⟨-, -, h3, h4⟩ := (h r (by omega)).1 hr
  rw [has3 hR hr, if_neg (by decide), nI_clamp (by omega), h3]
  rcases h4 with e | e <;> rw [e] <;> decide
theorem win_eq {R : Nat} {fw fb ew el : Nat → Int32} (hR : R ≤ 6) (h : RR R fw fb ew el) {r : Nat} (hr : r < R) : F_X3_windowOf (nI R) fw (nI r) = ew r := by
  unfold F_X3_windowOf
  rw [has3 hR hr, if_neg (by decide), nI_clamp (by omega)]
  exact ((h r (by omega)).1 hr).1
