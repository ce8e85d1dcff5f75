-- numbers and worlds of the law's walk
theorem va_D.lay3 {A : Nat → Prop} {F a b c Y r : va_W} {q : Nat × va_E} (h : va_D A (((F ++ (a ++ (b ++ (c ++ Y)))) ++ [q]) ++ r)) : va_D A ((F ++ [q]) ++ (a ++ (b ++ (c ++ (r ++ Y))))) := by
  have h1 : va_D A (((F ++ (a ++ (b ++ c))) ++ Y) ++ ([q] ++ r)) := by simpa only [List.append_assoc] using h
  have h2 := va_D.swap h1
  have h3 : va_D A ((F ++ (a ++ (b ++ c))) ++ ([q] ++ (r ++ Y))) := by simpa only [List.append_assoc] using h2
  have h4 := va_D.swap h3
  have h5 : va_D A (((F ++ [q]) ++ (r ++ Y)) ++ (a ++ (b ++ c))) := by simpa only [List.append_assoc] using h4
  have h6 := va_D.swap h5
  simpa only [List.append_assoc] using h6
theorem va_P.lay3 {D : va_G} {cl : List vw_C} {F a b c Y r : va_W} {q : Nat × va_E} {H : Heap} (h : va_P D cl (((F ++ (a ++ (b ++ (c ++ Y)))) ++ [q]) ++ r) H) : va_P D cl ((F ++ [q]) ++ (a ++ (b ++ (c ++ (r ++ Y))))) H := by
  have h1 : va_P D cl (((F ++ (a ++ (b ++ c))) ++ Y) ++ ([q] ++ r)) H := by simpa only [List.append_assoc] using h
  have h2 := va_P.swap h1
  have h3 : va_P D cl ((F ++ (a ++ (b ++ c))) ++ ([q] ++ (r ++ Y))) H := by simpa only [List.append_assoc] using h2
  have h4 := va_P.swap h3
  have h5 : va_P D cl (((F ++ [q]) ++ (r ++ Y)) ++ (a ++ (b ++ c))) H := by simpa only [List.append_assoc] using h4
  have h6 := va_P.swap h5
  simpa only [List.append_assoc] using h6
theorem va_D.lay4 {A : Nat → Prop} {F a b c d Y r : va_W} {q : Nat × va_E} (h : va_D A (((F ++ (a ++ (b ++ (c ++ (d ++ Y))))) ++ [q]) ++ r)) : va_D A ((F ++ [q]) ++ (a ++ (b ++ (c ++ (d ++ (r ++ Y)))))) := by
  have h9 : va_D A (((F ++ (a ++ (b ++ ((c ++ d) ++ Y)))) ++ [q]) ++ r) := by simpa only [List.append_assoc] using h
  simpa only [List.append_assoc] using h9.lay3
theorem va_P.lay4 {D : va_G} {cl : List vw_C} {F a b c d Y r : va_W} {q : Nat × va_E} {H : Heap} (h : va_P D cl (((F ++ (a ++ (b ++ (c ++ (d ++ Y))))) ++ [q]) ++ r) H) : va_P D cl ((F ++ [q]) ++ (a ++ (b ++ (c ++ (d ++ (r ++ Y)))))) H := by
  have h9 : va_P D cl (((F ++ (a ++ (b ++ ((c ++ d) ++ Y)))) ++ [q]) ++ r) H := by simpa only [List.append_assoc] using h
  simpa only [List.append_assoc] using h9.lay3
section
variable {R G n : Nat} {nf : Int32} {fc fw fb gR gW gT gS gJ gY : Nat → Int32} {sf : Int32} {sh sr sg : Nat → Nat → Int32}
theorem ct_0 (h : Rel R G n (nI n) nf fc (nI R) fw fb (nI G) gR gW gT gS gJ gY (EH sh) (EW sr) (EL sr) (EP sg) (EN (nI n) sf)) (hn : n < 2 ^ 30) : F_X4_count (nI n) nf fc (nI R) fw fb gJ gY 0 = nI n := (sm_count h hn (w := 0) (by omega)).trans rfl
theorem ct_1 (h : Rel R G n (nI n) nf fc (nI R) fw fb (nI G) gR gW gT gS gJ gY (EH sh) (EW sr) (EL sr) (EP sg) (EN (nI n) sf)) (hn : n < 2 ^ 30) : F_X4_count (nI n) nf fc (nI R) fw fb gJ gY 1 = nI (tri n) := ((sm_count h hn (w := 1) (by omega)).trans rfl).trans ((s_moon (by omega)).trans (mmoon (by omega)))
theorem ct_2 (h : Rel R G n (nI n) nf fc (nI R) fw fb (nI G) gR gW gT gS gJ gY (EH sh) (EW sr) (EL sr) (EP sg) (EN (nI n) sf)) (hn : n < 2 ^ 30) : F_X4_count (nI n) nf fc (nI R) fw fb gJ gY 2 = F_M_flies (EH sh) := ((sm_count h hn (w := 2) (by omega)).trans rfl).trans (s_flies sh)
theorem ct_3 (h : Rel R G n (nI n) nf fc (nI R) fw fb (nI G) gR gW gT gS gJ gY (EH sh) (EW sr) (EL sr) (EP sg) (EN (nI n) sf)) (hn : n < 2 ^ 30) : F_X4_count (nI n) nf fc (nI R) fw fb gJ gY 3 = nI R := (sm_count h hn (w := 3) (by omega)).trans rfl
theorem sum_sm (sg : Nat → Nat → Int32) (G : Nat) (w : Nat) : F_X5_sum sg G w = sm (fun g => sg g w) G := by
  have e : F_X5_sum sg G w = 0 + sm (fun g => sg g w) G := it_sm (fun g => sg g w) 0 G
  rw [e, Int32.zero_add]
theorem ct_6 (h : Rel R G n (nI n) nf fc (nI R) fw fb (nI G) gR gW gT gS gJ gY (EH sh) (EW sr) (EL sr) (EP sg) (EN (nI n) sf)) (hn : n < 2 ^ 30) : F_X4_count (nI n) nf fc (nI R) fw fb gJ gY 6 = sm (fun g => sg g 2) G := ((sm_count h hn (w := 6) (by omega)).trans rfl).trans (sum_sm sg G 2)
theorem ct_7 (h : Rel R G n (nI n) nf fc (nI R) fw fb (nI G) gR gW gT gS gJ gY (EH sh) (EW sr) (EL sr) (EP sg) (EN (nI n) sf)) (hn : n < 2 ^ 30) : F_X4_count (nI n) nf fc (nI R) fw fb gJ gY 7 = sf := (sm_count h hn (w := 7) (by omega)).trans rfl
theorem Rel.cv (h : Rel R G n (nI n) nf fc (nI R) fw fb (nI G) gR gW gT gS gJ gY (EH sh) (EW sr) (EL sr) (EP sg) (EN (nI n) sf)) {x y : Nat} (hx : x < 10) (hy : y < 5) : sh x y = nI (tn (sh x y)) ∧ tn (sh x y) ≤ 40 := by
  obtain ⟨-, -, -, -, -, -, -, hH, -, -⟩ := h
  obtain ⟨q, v, hv, e⟩ := hH (10 * y + x) (by omega)
  rw [eh_at sh hx] at e
  unfold tn
  rw [e, nI_clamp (by omega)]
  exact ⟨rfl, hv⟩
end
theorem rt_1 (sr sg : Nat → Nat → Int32) (G k : Nat) : rt sr sg G k 1 = sr k 1 := by
  unfold rt F_M_roomTold
  rfl
theorem tri_lo {n : Nat} (h : ¬ 5 ≤ nI (n % 8)) : nI (tri n) = nI (n % 8) := by
  have h5 : n % 8 < 5 := Decidable.byContradiction fun q => h (nI_le (a := 5) (b := n % 8) (by omega) (by omega))
  unfold tri
  rw [if_pos (by omega)]
theorem tri_hi {n : Nat} (h : 5 ≤ nI (n % 8)) : nI (tri n) = nI (8 - n % 8) := by
  have h5 : ¬ n % 8 < 5 := fun q => absurd h (nI_ge (a := n % 8) (b := 5) q (by decide))
  unfold tri
  rw [if_neg (by omega)]
theorem sub_l (a b : Int32) : a + b - a = b := by rw [Int32.add_comm, Int32.add_sub_cancel]
/-- what the guests' loop asks of a night -/
def GF (R G n : Nat) (sg0 sg : Nat → Nat → Int32) (t z zr : Nat → Nat) : Prop := ∀ g, g < G → sg g 0 = sg0 g 0 ∧ sg g 1 = sg0 g 1 ∧ sg g 5 = sg0 g 5 ∧ sg g 3 = sg0 g 3 + nI (t g) ∧ sg g 4 = sg0 g 4 + nI (z g) ∧ sg g 2 = (if sg0 g 0 = nI (n % R) then 0 else sg0 g 2) ∧ (∃ j, j ≤ 1 ∧ sg0 g 2 = nI j ∧ t g ≤ 3 * j) ∧ z g = (if sg0 g 5 = 1 then 0 else zr (tn (sg0 g 0))) ∧ (sg0 g 5 = 1 → sg0 g 2 = 0)
/-- the rooms' guests have seen the same, so far as they were asked -/
def SE (R : Nat) (zr : Nat → Nat) (se : Nat → Int32) : Prop := ∀ r, r < R → se r = -1 ∨ se r = nI (zr r)
theorem SE.up {R : Nat} {zr : Nat → Nat} {se : Nat → Int32} (h : SE R zr se) {r v : Nat} (e : v = zr r) : SE R zr (upd se r (nI v)) := fun j hj => by
  by_cases c : j = r
  · rw [c, pk_us, e]
    exact Or.inr rfl
  · rw [pk_un c]
    exact h j hj
/-- what the warden found, when the first k rooms are gone through -/
def gon (q : Nat) (f : Nat → Int32) (k : Nat) : Int32 := if q < k then f q else 0
theorem gon_y {q k : Nat} {f : Nat → Int32} (h : k = q) : gon q f k + f k = gon q f (k + 1) := by
  subst h
  unfold gon
  rw [if_neg (Nat.lt_irrefl _), if_pos (Nat.lt_succ_self _), Int32.zero_add]
theorem gon_n {q k : Nat} {f : Nat → Int32} (h : ¬ k = q) : gon q f k = gon q f (k + 1) := by
  unfold gon
  by_cases c : q < k
  · rw [if_pos c, if_pos (by omega)]
  · rw [if_neg c, if_neg (by omega)]
/-- a cell's most: nothing by a lamp, its eleventh part and one in the dark -/
def mst (sr sh : Nat → Nat → Int32) (R a w : Nat) : Nat := if F_X5_lit sr R (nI a) = 0 then tn (sh a w) / 11 + 1 else 0
theorem mst_d {sr sh : Nat → Nat → Int32} {R a w : Nat} (c : F_X5_lit sr R (nI a) = 0) : mst sr sh R a w = tn (sh a w) / 11 + 1 := if_pos c
theorem mst_l {sr sh : Nat → Nat → Int32} {R a w : Nat} (c : ¬ F_X5_lit sr R (nI a) = 0) : mst sr sh R a w = 0 := if_neg c
def cvs (sh : Nat → Nat → Int32) (i : Nat) : Nat := tn (sh (i / 5) (i % 5))
def mss (sr sh : Nat → Nat → Int32) (R i : Nat) : Nat := mst sr sh R (i / 5) (i % 5)
theorem cvs_s (sh : Nat → Nat → Int32) {a w : Nat} (hw : w < 5) : sn (cvs sh) (5 * a + w) + tn (sh a w) = sn (cvs sh) (5 * a + (w + 1)) := by
  show _ = sn (cvs sh) (5 * a + w) + cvs sh (5 * a + w)
  unfold cvs
  rw [show (5 * a + w) / 5 = a by omega, show (5 * a + w) % 5 = w by omega]
theorem mss_s (sr sh : Nat → Nat → Int32) (R : Nat) {a w : Nat} (hw : w < 5) : sn (mss sr sh R) (5 * a + w) + mst sr sh R a w = sn (mss sr sh R) (5 * a + (w + 1)) := by
  show _ = sn (mss sr sh R) (5 * a + w) + mss sr sh R (5 * a + w)
  unfold mss
  rw [show (5 * a + w) / 5 = a by omega, show (5 * a + w) % 5 = w by omega]
/-- columns one after the other, rows one after the other -/
theorem sn_turn (f : Nat → Nat) : sn (fun i => f (10 * (i % 5) + i / 5)) 50 = sn f 50 := by
  simp only [sn, Nat.reduceMod, Nat.reduceDiv, Nat.reduceMul, Nat.reduceAdd]
  omega
theorem cells_end {R : Nat} {sr sh : Nat → Nat → Int32} {hg : Nat → Nat} (h : ∀ x y, x < 10 → y < 5 → hg (10 * y + x) ≤ 40 ∧ sh x y = nI (if F_X5_lit sr R (nI x) = 0 then min 40 (hg (10 * y + x) + hg (10 * y + x) / 10) else hg (10 * y + x))) :
    sn (cvs sh) 50 ≤ sn hg 50 + sn (mss sr sh R) 50 ∧ sn (cvs sh) 50 ≤ 2000 ∧ sn (mss sr sh R) 50 ≤ 250 := by
  have key : ∀ i, i < 50 → cvs sh i ≤ hg (10 * (i % 5) + i / 5) + mss sr sh R i ∧ cvs sh i ≤ 40 ∧ mss sr sh R i ≤ 5 := fun i hi => by
    obtain ⟨h1, h2⟩ := h (i / 5) (i % 5) (by omega) (by omega)
    unfold mss cvs mst tn
    rw [h2]
    by_cases c : F_X5_lit sr R (nI (i / 5)) = 0
    · rw [if_pos c, if_pos c, nI_clamp (by omega)]
      omega
    · rw [if_neg c, if_neg c, nI_clamp (by omega)]
      omega
  refine ⟨?_, ?_, ?_⟩
  · rw [← sn_turn hg, ← sn_add]
    exact sn_le (fun k hk => (key k hk).1)
  · exact Nat.le_trans (sn_bound (fun k hk => (key k hk).2.1)) (by omega)
  · exact Nat.le_trans (sn_bound (fun k hk => (key k hk).2.2)) (by omega)
/-- all cells, column by column -/
theorem flies_cvs {sh : Nat → Nat → Int32} (h : ∀ x y, x < 10 → y < 5 → sh x y = nI (tn (sh x y))) : F_M_flies (EH sh) = nI (sn (cvs sh) 50) := by
  have e : F_M_flies (EH sh) = 0 + sm (EH sh) 50 := it_sm (EH sh) 0 50
  have e2 : sm (EH sh) 50 = nI (sn (fun i => tn (sh (i % 10) (i / 10))) 50) := by
    rw [← sm_nI]
    refine sm_congr (fun i hi => ?_)
    have e3 := eh_at sh (x := i % 10) (y := i / 10) (by omega)
    rw [show 10 * (i / 10) + i % 10 = i by omega] at e3
    exact e3.trans (h _ _ (by omega) (by omega))
  rw [e, Int32.zero_add, e2, ← sn_turn (fun i => tn (sh (i % 10) (i / 10)))]
  refine congrArg nI (sn_congr (fun i hi => ?_))
  unfold cvs
  rw [show (10 * (i % 5) + i / 5) % 10 = i / 5 by omega, show (10 * (i % 5) + i / 5) / 10 = i % 5 by omega]
