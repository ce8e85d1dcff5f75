-- the picture's numbers, as the words of the night have them
def EH (sh : Nat → Nat → Int32) : Nat → Int32 := fun i => sh (i % 10) (i / 10)
def EW (sr : Nat → Nat → Int32) : Nat → Int32 := fun j => sr j 0
def EL (sr : Nat → Nat → Int32) : Nat → Int32 := fun j => sr j 1
def EP (sg : Nat → Nat → Int32) : Nat → Int32 := fun i => sg (i / 6) (i % 6)
def EN (a b : Int32) : Nat → Int32 := fun i => if i = 0 then a else b
theorem eh_at (sh : Nat → Nat → Int32) {x y : Nat} (hx : x < 10) : EH sh (10 * y + x) = sh x y := by
  unfold EH
  rw [show (10 * y + x) % 10 = x by omega, show (10 * y + x) / 10 = y by omega]
theorem ep_at (sg : Nat → Nat → Int32) {g w : Nat} (hw : w < 6) : EP sg (6 * g + w) = sg g w := by
  unfold EP
  rw [show (6 * g + w) / 6 = g by omega, show (6 * g + w) % 6 = w by omega]
theorem ep_0 (sg : Nat → Nat → Int32) (g : Nat) : EP sg (6 * g) = sg g 0 := ep_at sg (g := g) (w := 0) (by omega)
theorem eh_up (sh : Nat → Nat → Int32) {x y : Nat} (hx : x < 10) (v : Int32) : EH (up2 sh x y v) = upd (EH sh) (10 * y + x) v := by
  funext i
  by_cases h : i = 10 * y + x
  · subst h
    rw [pk_us, eh_at _ hx, up2_s]
  · rw [pk_un h]
    unfold EH
    by_cases h2 : i % 10 = x
    · exact up2_k _ _ _ _ (by omega)
    · exact up2_j _ _ _ _ h2
theorem ep_up (sg : Nat → Nat → Int32) {g w : Nat} (hw : w < 6) (v : Int32) : EP (up2 sg g w v) = upd (EP sg) (6 * g + w) v := by
  funext i
  by_cases h : i = 6 * g + w
  · subst h
    rw [pk_us, ep_at _ hw, up2_s]
  · rw [pk_un h]
    unfold EP
    by_cases h2 : i % 6 = w
    · exact up2_j _ _ _ _ (by omega)
    · exact up2_k _ _ _ _ h2
theorem en_0 (a b : Int32) : EN a b 0 = a := rfl
theorem en_1 (a b : Int32) : EN a b 1 = b := rfl
section
variable {R G n : Nat} {nt nf : Int32} {fc : Nat → Int32} {nr : Int32} {fw fb : Nat → Int32} {ng : Int32} {gR gW gT gS gJ gY eh en : Nat → Int32} {sr sg : Nat → Nat → Int32}
theorem Rel.si (h : Rel R G n nt nf fc nr fw fb ng gR gW gT gS gJ gY eh (EW sr) (EL sr) (EP sg) en) : SI R G sr sg := by
  obtain ⟨hR, hG, -, -, -, -, -, -, hr, hg⟩ := h
  refine ⟨fun j hj => ((hr j (by omega)).1 hj).2.1, fun g hg9 => ?_⟩
  obtain ⟨-, a2, -⟩ := (hg g (by omega)).1 hg9
  rw [ep_0] at a2
  exact a2
theorem has3_ne (hR : R ≤ 6) {r : Nat} (h : r < R) : ¬ F_X3_has (nI R) (nI r) = 0 := by rw [has3 hR h]; decide
theorem has0_ne (hG : G ≤ 12) {g : Nat} (h : g < G) : ¬ F_X0_has (nI G) (nI g) = 0 := by rw [has0 hG h]; decide
end
-- sums
/-- the sum of the n first -/
def sm (f : Nat → Int32) : Nat → Int32
  | 0 => 0
  | n + 1 => sm f n + f n
theorem it_last {σ : Type} (f : Nat → σ → σ) (n k : Nat) (v : σ) : it f (n + 1) k v = f (k + n) (it f n k v) := by rw [it_add]; rfl
theorem it_sm (f : Nat → Int32) (v : Int32) : ∀ n : Nat, it (fun k (w : Int32) => w + f k) n 0 v = v + sm f n
  | 0 => (Int32.add_zero v).symm
  | n + 1 => by rw [it_last, it_sm f v n, Nat.zero_add, Int32.add_assoc]; rfl
theorem sm_congr {f g : Nat → Int32} : ∀ {n : Nat}, (∀ k, k < n → f k = g k) → sm f n = sm g n
  | 0, _ => rfl
  | n + 1, h => by
    show sm f n + f n = sm g n + g n
    rw [sm_congr (fun k hk => h k (by omega)), h n (by omega)]
theorem sm_zero : ∀ n : Nat, sm (fun _ => 0) n = 0
  | 0 => rfl
  | n + 1 => by show sm (fun _ => 0) n + 0 = 0; rw [sm_zero n]; rfl
theorem sm_add (f g : Nat → Int32) : ∀ n : Nat, sm (fun k => f k + g k) n = sm f n + sm g n
  | 0 => rfl
  | n + 1 => by
    show sm (fun k => f k + g k) n + (f n + g n) = (sm f n + f n) + (sm g n + g n)
    rw [sm_add f g n]
    ac_rfl
theorem sm_swap (f : Nat → Nat → Int32) (m : Nat) : ∀ n : Nat, sm (fun x => sm (fun y => f x y) m) n = sm (fun y => sm (fun x => f x y) n) m
  | 0 => (sm_zero m).symm
  | n + 1 => by
    show sm (fun x => sm (fun y => f x y) m) n + sm (fun y => f n y) m = sm (fun y => sm (fun x => f x y) n + f n y) m
    rw [sm_swap f m n, sm_add]
theorem sm_split (f : Nat → Int32) (m : Nat) : ∀ n : Nat, sm f (n + m) = sm f n + sm (fun k => f (n + k)) m := by
  intro n
  induction m with
  | zero => exact (Int32.add_zero _).symm
  | succ m ih =>
    show sm f (n + m) + f (n + m) = sm f n + (sm (fun k => f (n + k)) m + f (n + m))
    rw [ih, Int32.add_assoc]
theorem sm_rows (f : Nat → Int32) (m : Nat) : ∀ n : Nat, sm f (m * n) = sm (fun y => sm (fun x => f (m * y + x)) m) n
  | 0 => rfl
  | n + 1 => by
    rw [show m * (n + 1) = m * n + m from rfl, sm_split, sm_rows f m n]
    rfl
