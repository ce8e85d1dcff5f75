-- what a night does to the hedge, counted
/-- the sum of the n first -/
def sn (f : Nat → Nat) : Nat → Nat
  | 0 => 0
  | n + 1 => sn f n + f n
theorem sn_congr {f g : Nat → Nat} : ∀ {n : Nat}, (∀ k, k < n → f k = g k) → sn f n = sn g n
  | 0, _ => rfl
  | n + 1, h => by
    show sn f n + f n = sn g n + g n
    rw [sn_congr (fun k hk => h k (by omega)), h n (by omega)]
theorem sn_le {f g : Nat → Nat} : ∀ {n : Nat}, (∀ k, k < n → f k ≤ g k) → sn f n ≤ sn g n
  | 0, _ => Nat.le_refl _
  | n + 1, h => Nat.add_le_add (sn_le (fun k hk => h k (by omega))) (h n (by omega))
theorem sn_add (f g : Nat → Nat) : ∀ n : Nat, sn (fun k => f k + g k) n = sn f n + sn g n
  | 0 => rfl
  | n + 1 => by
    show sn (fun k => f k + g k) n + (f n + g n) = (sn f n + f n) + (sn g n + g n)
    rw [sn_add f g n]
    omega
theorem sn_bound {f : Nat → Nat} {b : Nat} : ∀ {n : Nat}, (∀ k, k < n → f k ≤ b) → sn f n ≤ n * b
  | 0, _ => Nat.zero_le _
  | n + 1, h => by
    show sn f n + f n ≤ (n + 1) * b
    have h1 := sn_bound (n := n) (fun k hk => h k (by omega))
    have h2 := h n (by omega)
    rw [Nat.succ_mul]
    omega
/-- one place written anew -/
theorem sn_put (f : Nat → Nat) (i x : Nat) : ∀ n : Nat, sn (fun k => if k = i then x else f k) n + (if i < n then f i else 0) = sn f n + (if i < n then x else 0)
  | 0 => rfl
  | n + 1 => by
    have ih := sn_put f i x n
    show sn (fun k => if k = i then x else f k) n + (if n = i then x else f n) + (if i < n + 1 then f i else 0) = sn f n + f n + (if i < n + 1 then x else 0)
    by_cases c : i < n
    · rw [if_pos c, if_pos c] at ih
      rw [if_neg (show ¬ n = i by omega), if_pos (by omega), if_pos (by omega)]
      omega
    · rw [if_neg c, if_neg c] at ih
      by_cases d : n = i
      · subst d
        rw [if_pos rfl, if_pos (Nat.lt_succ_self _), if_pos (Nat.lt_succ_self _)]
        omega
      · rw [if_neg d, if_neg (by omega), if_neg (by omega)]
        omega
/-- a hedge of cells of 0 to 40, and no more than T in all, when D more are added -/
def HB (T D : Nat) (fc : Nat → Int32) : Prop := ∃ h : Nat → Nat, (∀ i, i < 50 → fc i = nI (h i) ∧ h i ≤ 40) ∧ sn h 50 + D ≤ T
theorem HB.at {T D : Nat} {fc : Nat → Int32} (h : HB T D fc) {i : Nat} (hi : i < 50) : ∃ v, v ≤ 40 ∧ fc i = nI v := by
  obtain ⟨f, hf, -⟩ := h
  exact ⟨f i, (hf i hi).2, (hf i hi).1⟩
theorem nI_ij {a b : Nat} (ha : a < 2 ^ 31) (hb : b < 2 ^ 31) (h : nI a = nI b) : a = b := (nI_eq ha hb).mp h
theorem HB.put {T D : Nat} {fc : Nat → Int32} (h : HB T D fc) {i p p' t : Nat} (hi : i < 50) (e : fc i = nI p) (hp : p ≤ 40) (hp' : p' ≤ 40) (hle : p' + t ≤ p) : HB T (D + t) (upd fc i (nI p')) := by
  obtain ⟨f, hf, hs⟩ := h
  have ep : f i = p := nI_ij (by have := (hf i hi).2; omega) (by omega) ((hf i hi).1.symm.trans e)
  refine ⟨fun k => if k = i then p' else f k, fun k hk => ?_, ?_⟩
  · dsimp only
    by_cases c : k = i
    · subst c
      rw [pk_us, if_pos rfl]
      exact ⟨rfl, hp'⟩
    · rw [pk_un c, if_neg c]
      exact hf k hk
  · have := sn_put f i p' 50
    rw [if_pos hi, if_pos hi] at this
    omega
theorem HB.move {T D : Nat} {fc : Nat → Int32} (h : HB T D fc) {i j p q p' q' : Nat} (hi : i < 50) (hj : j < 50) (hij : i ≠ j) (e1 : fc i = nI p) (e2 : fc j = nI q) (hp : p ≤ 40) (hq : q ≤ 40) (hp' : p' ≤ 40) (hq' : q' ≤ 40) (hle : p' + q' ≤ p + q) : HB T D (upd (upd fc i (nI p')) j (nI q')) := by
  obtain ⟨f, hf, hs⟩ := h
  have ep : f i = p := nI_ij (by have := (hf i hi).2; omega) (by omega) ((hf i hi).1.symm.trans e1)
  have eq : f j = q := nI_ij (by have := (hf j hj).2; omega) (by omega) ((hf j hj).1.symm.trans e2)
  refine ⟨fun k => if k = j then q' else if k = i then p' else f k, fun k hk => ?_, ?_⟩
  · dsimp only
    by_cases d : k = j
    · subst d
      rw [pk_us, if_pos rfl]
      exact ⟨rfl, hq'⟩
    · rw [pk_un d, if_neg d]
      by_cases c : k = i
      · subst c
        rw [pk_us, if_pos rfl]
        exact ⟨rfl, hp'⟩
      · rw [pk_un c, if_neg c]
        exact hf k hk
  · have h1 := sn_put f i p' 50
    have h2 := sn_put (fun k => if k = i then p' else f k) j q' 50
    rw [if_pos hi, if_pos hi] at h1
    rw [if_pos hj, if_pos hj, if_neg (show ¬ j = i from fun q => hij q.symm)] at h2
    omega
theorem HB.aside {T D : Nat} {fc : Nat → Int32} (h : HB T D fc) {x z : Nat} (hx : x < 10) (hz : z < 10) (hxz : x ≠ z) : HB T D (F_X1_driveAside fc (nI x) (nI z)) := by
  refine it_invN (P := HB T D) (f := fun (k : Nat) (v : Nat → Int32) => S_X1_driveAside_2 (nI x) (nI z) k v) 5 0 fc (fun y a _ hy ha => ?_) h
  obtain ⟨p, hp, e1⟩ := ha.at (i := 10 * y + x) (by omega)
  obtain ⟨q, hq, e2⟩ := ha.at (i := 10 * y + z) (by omega)
  show HB T D (C_X1_driveAside_44 (nI x) (nI z) y a)
  unfold C_X1_driveAside_44
  rw [at_in hx (by omega), put_in hx (by omega), at_in hz (by omega), pk_un (show 10 * y + z ≠ 10 * y + x by omega), put_in hz (by omega), e1, e2, show (2 : Int32) = nI 2 from rfl, pk_div (by omega) (by omega) (by omega), pk_sub (by omega), nI_add, show (40 : Int32) = nI 40 from rfl, mn_n (by omega) (by omega), mn_n (by omega) (by omega)]
  exact ha.move (by omega) (by omega) (by omega) e1 e2 hp hq (by omega) (by omega) (by omega)
theorem HB.down {T D : Nat} {fc : Nat → Int32} (h : HB T D fc) {x : Nat} (hx : x < 10) : HB T D (F_X1_driveDown fc (nI x)) := by
  have key := itd_sim (τ := Unit) (P := fun _ (a : Nat → Int32) _ => HB T D a) (f := fun (k : Nat) (v : Nat → Int32) => S_X1_driveDown_2 (nI x) k v) (g := fun _ _ => ()) 4 fc () (fun y a _ hy ha => ?_) h
  · exact key
  · obtain ⟨p, hp, e1⟩ := ha.at (i := 10 * y + x) (by omega)
    obtain ⟨q, hq, e2⟩ := ha.at (i := 10 * (y + 1) + x) (by omega)
    show HB T D (C_X1_driveDown_56 (nI x) y a)
    unfold C_X1_driveDown_56
    rw [at_in hx (by omega), at_in hx (by omega), put_in hx (by omega), at_in hx (by omega), put_in hx (by omega), pk_un (show 10 * (y + 1) + x ≠ 10 * y + x by omega), e1, e2, show (40 : Int32) = nI 40 from rfl, pk_sub (show q ≤ 40 by omega), mn_n (by omega) (by omega), pk_sub (by omega), nI_add, mn_n (by omega) (by omega), mn_n (by omega) (by omega)]
    exact ha.move (by omega) (by omega) (by omega) e1 e2 hp hq (by omega) (by omega) (by omega)
theorem HB.lamps {T D R : Nat} {fc fw fb ew el : Nat → Int32} (hR : R ≤ 6) (hr : RR R fw fb ew el) (fl : Nat → Int32) (h : HB T D fc) : HB T D (F_X2_driveByLamps fc (F_X2_lookAtLamps fw fb fl)) := by
  refine it_invN (P := HB T D) (f := fun (k : Nat) (v : Nat → Int32) => S_X2_driveByLamps_2 (F_X2_lookAtLamps fw fb fl) k v) 10 0 fc (fun k a _ hk ha => ?_) h
  show HB T D (S_X2_driveByLamps_2 (F_X2_lookAtLamps fw fb fl) k a)
  have up : HB T D (if F_X2_isDarkColumn (F_X2_lookAtLamps fw fb fl) (nI (k + 1)) = 0 then a else F_X1_driveAside a (nI k) (nI (k + 1))) := by
    by_cases c : F_X2_isDarkColumn (F_X2_lookAtLamps fw fb fl) (nI (k + 1)) = 0
    · rw [if_pos c]
      exact ha
    · rw [if_neg c]
      have k9 : k + 1 < 10 := by
        by_cases q : k + 1 < 10
        · exact q
        · exact absurd (by
            have e : k = 9 := by omega
            subst e
            unfold F_X2_isDarkColumn
            rw [if_neg (by decide), if_pos (by decide)]) c
      exact ha.aside (by omega) k9 (by omega)
  unfold S_X2_driveByLamps_2
  by_cases c : (F_X2_lookAtLamps fw fb fl) k = 0
  · rw [if_pos c, if_pos c]
    exact ha
  · rw [if_neg c, if_neg c]
    by_cases d : F_X2_isDarkColumn (F_X2_lookAtLamps fw fb fl) (nI k - 1) = 0
    · rw [if_pos d]
      exact up
    · rw [if_neg d]
      cases k with
      | zero => exact absurd dark_out.1 d
      | succ k =>
        rw [nI_pred]
        exact ha.aside (by omega) (by omega) (by omega)
theorem HB.whisp {T D R G : Nat} {fc fw fb ew el gR gW gY : Nat → Int32} (hR : R ≤ 6) (hr : RR R fw fb ew el) (hq : ∀ r, R ≤ r → r < 6 → F_X0_whispersIn gR gW gY (nI r) ≤ 9) (h : HB T D fc) : HB T D (F_X2_driveByWhispers fc (nI R) fw gR gW gY) := by
  refine it_invN (P := HB T D) (f := fun (k : Nat) (v : Nat → Int32) => S_X2_driveByWhispers_2 (nI R) fw gR gW gY k v) 6 0 fc (fun k a _ hk ha => ?_) h
  show HB T D (S_X2_driveByWhispers_2 (nI R) fw gR gW gY k a)
  unfold S_X2_driveByWhispers_2
  by_cases c : F_X0_whispersIn gR gW gY (nI k) ≤ 9
  · rw [if_pos c]
    exact ha
  · rw [if_neg c]
    have kR : k < R := by
      by_cases q : k < R
      · exact q
      · exact absurd (hq k (by omega) (by omega)) c
    obtain ⟨-, ⟨w, hw, ew9⟩, -⟩ := (hr k (by omega)).1 kR
    rw [win_eq hR hr kR, ew9]
    exact ha.down hw
/-- a jar's catch: three at most, from one cell -/
theorem HB.catch {T D : Nat} {fc : Nat → Int32} (h : HB T D fc) {x : Nat} (hx : x < 10) : ∀ m y : Nat, y + m = 5 → ∃ t, t ≤ 3 ∧ (L_X1_takeUppermost_2 fc (nI x) 3 m y).1 = nI t ∧ HB T (D + t) (L_X1_takeUppermost_2 fc (nI x) 3 m y).2 := by
  intro m
  induction m with
  | zero => intro y _; exact ⟨0, by omega, rfl, h⟩
  | succ m ih =>
    intro y hy
    obtain ⟨p, hp, e1⟩ := h.at (i := 10 * y + x) (by omega)
    unfold L_X1_takeUppermost_2
    rw [at_in hx (by omega), e1]
    by_cases c : nI p ≤ 0
    · rw [if_pos c]
      exact ih (y + 1) (by omega)
    · rw [if_neg c, put_in hx (by omega), show (3 : Int32) = nI 3 from rfl, mn_n (by omega) (by omega), pk_sub (by omega), show (40 : Int32) = nI 40 from rfl, mn_n (by omega) (by omega)]
      exact ⟨min p 3, by omega, rfl, h.put (by omega) e1 hp (by omega) (by omega)⟩
