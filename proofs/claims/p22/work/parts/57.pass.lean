theorem simmoon_ne (n : Nat) : ¬ F_X5_moon n + 1 = 0 := by
  unfold F_X5_moon
  rcases (show n % 8 = 0 ∨ n % 8 = 1 ∨ n % 8 = 2 ∨ n % 8 = 3 ∨ n % 8 = 4 ∨ n % 8 = 5 ∨ n % 8 = 6 ∨ n % 8 = 7 by omega) with h | h | h | h | h | h | h | h <;> rw [h] <;> decide

def T_X5_pass_32 (sr : Nat → Nat → Int32) (R : Nat) (k10 : Nat) : Int32 :=
  if 9 ≤ (nI k10) then
    (-1)
  else
    if (F_X5_lit sr R (nI (k10 + 1))) = 0 then
      (nI (k10 + 1))
    else
      (-1)
def T_X5_pass_50 (sr : Nat → Nat → Int32) (R : Nat) (k10 : Nat) : Int32 :=
  if (nI k10) ≤ 0 then
    (T_X5_pass_32 sr R k10)
  else
    if (F_X5_lit sr R ((nI k10) - 1)) = 0 then
      ((nI k10) - 1)
    else
      (T_X5_pass_32 sr R k10)
theorem to_S {R k : Nat} {sr : Nat → Nat → Int32} (hk : k < 10) (h : ¬ T_X5_pass_50 sr R k < 0) : ∃ j : Nat, j < 10 ∧ T_X5_pass_50 sr R k = nI j := by
  have h32 : ¬ T_X5_pass_32 sr R k < 0 → ∃ j : Nat, j < 10 ∧ T_X5_pass_32 sr R k = nI j := fun h => by
    unfold T_X5_pass_32 at h ⊢
    split at h
    · exact absurd (by decide) h
    · rename_i c1
      have c9 : k < 9 := nlt_of (n := 9) c1 (by omega) (by omega)
      rw [if_neg c1]
      split at h
      · rename_i c2
        rw [if_pos c2]
        exact ⟨k + 1, by omega, by first | rfl | exact nI_1 k⟩
      · exact absurd (by decide) h
  unfold T_X5_pass_50 at h ⊢
  split at h
  · rename_i c1
    rw [if_pos c1]
    exact h32 h
  · rename_i c1
    rw [if_neg c1]
    split at h
    · rename_i c2
      rw [if_pos c2]
      cases k with
      | zero => exact absurd (by decide) c1
      | succ k => exact ⟨k, by omega, nI_pred k⟩
    · rename_i c2
      rw [if_neg c2]
      exact h32 h
theorem to_S2 {R k : Nat} {sr : Nat → Nat → Int32} (hk : k < 10) (h : ¬ T_X5_pass_50 sr R k < 0) : T_X5_pass_50 sr R k = nI (tn (T_X5_pass_50 sr R k)) ∧ tn (T_X5_pass_50 sr R k) < 10 := by
  obtain ⟨j, hj, e⟩ := to_S hk h
  unfold tn
  rw [e, nI_clamp (by omega)]
  exact ⟨rfl, hj⟩
def L_X5_pass_70 (sh : Nat → Nat → Int32) (sr : Nat → Nat → Int32) (R : Nat) (k10 : Nat) : Nat → Nat → (Nat → Nat → Int32) → (Nat → Nat → Int32)
  | 0, _, th_70 => th_70
  | n70 + 1, k70, th_70 =>
    if (T_X5_pass_50 sr R k10) < 0 then
      th_70
    else
      L_X5_pass_70 sh sr R k10 n70 (k70 + 1) (up2 (up2 th_70 k10 k70 ((th_70 k10 k70) - ((sh k10 k70) / 2))) (tn (T_X5_pass_50 sr R k10)) k70 (((up2 th_70 k10 k70 ((th_70 k10 k70) - ((sh k10 k70) / 2))) (tn (T_X5_pass_50 sr R k10)) k70) + ((sh k10 k70) / 2)))
def I_X5_pass_70 (sh : Nat → Nat → Int32) (sr : Nat → Nat → Int32) (R : Nat) (k10 : Nat) (th_10 : Nat → Nat → Int32) : Nat → Nat → Int32 :=
  L_X5_pass_70 sh sr R k10 5 0 th_10
def S_X5_pass_10 (sh : Nat → Nat → Int32) (sr : Nat → Nat → Int32) (R : Nat) (k10 : Nat) (th_10 : Nat → Nat → Int32) : Nat → Nat → Int32 :=
  if (F_X5_lit sr R (nI k10)) = 0 then
    th_10
  else
    (I_X5_pass_70 sh sr R k10 th_10)
def I_X5_pass_10 (sh : Nat → Nat → Int32) (sr : Nat → Nat → Int32) (R : Nat) : Nat → Nat → Int32 :=
  it (fun (k : Nat) (v : Nat → Nat → Int32) => S_X5_pass_10 sh sr R k v) 10 0 sh
def S_X5_pass_155 (k140 : Nat) (k155 : Nat) (th_155 : Nat → Nat → Int32) : Nat → Nat → Int32 :=
  if (th_155 k140 k155) ≤ 40 then
    th_155
  else
    (up2 th_155 k140 k155 40)
def I_X5_pass_155 (k140 : Nat) (th_140 : Nat → Nat → Int32) : Nat → Nat → Int32 :=
  it (fun (k : Nat) (v : Nat → Nat → Int32) => S_X5_pass_155 k140 k v) 5 0 th_140
def S_X5_pass_140 (k140 : Nat) (th_140 : Nat → Nat → Int32) : Nat → Nat → Int32 :=
  (I_X5_pass_155 k140 th_140)
def I_X5_pass_140 (sh : Nat → Nat → Int32) (sr : Nat → Nat → Int32) (R : Nat) : Nat → Nat → Int32 :=
  it (fun (k : Nat) (v : Nat → Nat → Int32) => S_X5_pass_140 k v) 10 0 (I_X5_pass_10 sh sr R)
def T_X5_pass_261 (sr : Nat → Nat → Int32) (k197 : Nat) (n236 : Nat) (th_236 : Nat → Nat → Int32) : Int32 :=
  if ((th_236 (tn (sr k197 0)) (n236 + 1)) + (th_236 (tn (sr k197 0)) n236)) ≤ 40 then ((th_236 (tn (sr k197 0)) (n236 + 1)) + (th_236 (tn (sr k197 0)) n236)) else 40
def S_X5_pass_236 (sr : Nat → Nat → Int32) (k197 : Nat) (n236 : Nat) (th_236 : Nat → Nat → Int32) : Nat → Nat → Int32 :=
  (up2 (up2 th_236 (tn (sr k197 0)) (n236 + 1) (T_X5_pass_261 sr k197 n236 th_236)) (tn (sr k197 0)) n236 (((th_236 (tn (sr k197 0)) (n236 + 1)) + (th_236 (tn (sr k197 0)) n236)) - ((up2 th_236 (tn (sr k197 0)) (n236 + 1) (T_X5_pass_261 sr k197 n236 th_236)) (tn (sr k197 0)) (n236 + 1))))
def I_X5_pass_236 (sr : Nat → Nat → Int32) (k197 : Nat) (th_197 : Nat → Nat → Int32) : Nat → Nat → Int32 :=
  itd (fun (k : Nat) (v : Nat → Nat → Int32) => S_X5_pass_236 sr k197 k v) 4 th_197
def S_X5_pass_197 (sr : Nat → Nat → Int32) (sg : Nat → Nat → Int32) (G : Nat) (k197 : Nat) (th_197 : Nat → Nat → Int32) : Nat → Nat → Int32 :=
  if 10 ≤ (F_X5_whispers sg G (nI k197)) then
    (I_X5_pass_236 sr k197 th_197)
  else
    th_197
def I_X5_pass_197 (sh : Nat → Nat → Int32) (sr : Nat → Nat → Int32) (sg : Nat → Nat → Int32) (R : Nat) (G : Nat) : Nat → Nat → Int32 :=
  it (fun (k : Nat) (v : Nat → Nat → Int32) => S_X5_pass_197 sr sg G k v) R 0 (I_X5_pass_140 sh sr R)
def L_X5_pass_400 (sh : Nat → Nat → Int32) (sr : Nat → Nat → Int32) (sg : Nat → Nat → Int32) (R : Nat) (G : Nat) (k321 : Nat) (sg_321 : Nat → Nat → Int32) (k388 : Nat) : Nat → Nat → Int32 → Int32
  | 0, _, v8_400 => v8_400
  | n400 + 1, k400, v8_400 =>
    if (cO (tn (sr (tn (sg_321 k321 0)) 0)) k388) < 0 then
      v8_400
    else
      if 10 ≤ (cO (tn (sr (tn (sg_321 k321 0)) 0)) k388) then
        v8_400
      else
        L_X5_pass_400 sh sr sg R G k321 sg_321 k388 n400 (k400 + 1) (v8_400 + ((I_X5_pass_197 sh sr sg R G) (tn (sr (tn (sg_321 k321 0)) 0) + k388 - 1) k400))
def I_X5_pass_400 (sh : Nat → Nat → Int32) (sr : Nat → Nat → Int32) (sg : Nat → Nat → Int32) (R : Nat) (G : Nat) (k321 : Nat) (sg_321 : Nat → Nat → Int32) (k388 : Nat) (v8_388 : Int32) : Int32 :=
  L_X5_pass_400 sh sr sg R G k321 sg_321 k388 5 0 v8_388
def L_X5_pass_388 (sh : Nat → Nat → Int32) (sr : Nat → Nat → Int32) (sg : Nat → Nat → Int32) (R : Nat) (G : Nat) (k321 : Nat) (sg_321 : Nat → Nat → Int32) : Nat → Nat → Int32 → Int32
  | 0, _, v8_388 => v8_388
  | n388 + 1, k388, v8_388 =>
    L_X5_pass_388 sh sr sg R G k321 sg_321 n388 (k388 + 1) (I_X5_pass_400 sh sr sg R G k321 sg_321 k388 v8_388)
def I_X5_pass_388 (sh : Nat → Nat → Int32) (sr : Nat → Nat → Int32) (sg : Nat → Nat → Int32) (R : Nat) (G : Nat) (k321 : Nat) (sg_321 : Nat → Nat → Int32) : Int32 :=
  L_X5_pass_388 sh sr sg R G k321 sg_321 3 0 0
def S_X5_pass_321 (sh : Nat → Nat → Int32) (sr : Nat → Nat → Int32) (sg : Nat → Nat → Int32) (R : Nat) (G : Nat) (n : Nat) (k321 : Nat) (v3_321 : Int32) (sg_321 : Nat → Nat → Int32) : Int32 × (Nat → Nat → Int32) :=
  if (sg_321 k321 5) = 1 then
    (v3_321, sg_321)
  else
    if (sr (tn (sg_321 k321 0)) 1) = 1 then
      (v3_321, sg_321)
    else
      if (F_X5_moon n) = 4 then
        (v3_321, sg_321)
      else
        ((v3_321 + ((I_X5_pass_388 sh sr sg R G k321 sg_321) / ((F_X5_moon n) + 1))), (up2 sg_321 k321 4 ((sg_321 k321 4) + ((I_X5_pass_388 sh sr sg R G k321 sg_321) / ((F_X5_moon n) + 1)))))
def I_X5_pass_321 (sh : Nat → Nat → Int32) (sr : Nat → Nat → Int32) (sg : Nat → Nat → Int32) (R : Nat) (G : Nat) (n : Nat) : Int32 × (Nat → Nat → Int32) :=
  it (fun (k : Nat) (v : Int32 × (Nat → Nat → Int32)) => S_X5_pass_321 sh sr sg R G n k v.1 v.2) G 0 (0, sg)
def T_X5_pass_553 (sr : Nat → Nat → Int32) (k487 : Nat) (sg_487 : Nat → Nat → Int32) (k522 : Nat) (th_522 : Nat → Nat → Int32) : Int32 :=
  if 3 ≤ (th_522 (tn (sr (tn (sg_487 k487 0)) 0)) k522) then 3 else (th_522 (tn (sr (tn (sg_487 k487 0)) 0)) k522)
def L_X5_pass_522 (sh : Nat → Nat → Int32) (sr : Nat → Nat → Int32) (sg : Nat → Nat → Int32) (k487 : Nat) (sg_487 : Nat → Nat → Int32) : Nat → Nat → (Nat → Nat → Int32) → (Nat → Nat → Int32) → ((Nat → Nat → Int32) × (Nat → Nat → Int32))
  | 0, _, sg_522, th_522 => (sg_522, th_522)
  | n522 + 1, k522, sg_522, th_522 =>
    if (sg_522 k487 2) = 1 then
      if (th_522 (tn (sr (tn (sg_487 k487 0)) 0)) k522) = 0 then
        L_X5_pass_522 sh sr sg k487 sg_487 n522 (k522 + 1) sg_522 th_522
      else
        ((up2 sg_522 k487 3 ((sg_522 k487 3) + (T_X5_pass_553 sr k487 sg_487 k522 th_522))), (up2 th_522 (tn (sr (tn (sg_487 k487 0)) 0)) k522 ((th_522 (tn (sr (tn (sg_487 k487 0)) 0)) k522) - (T_X5_pass_553 sr k487 sg_487 k522 th_522))))
    else
      (sg_522, th_522)
def I_X5_pass_522 (sh : Nat → Nat → Int32) (sr : Nat → Nat → Int32) (sg : Nat → Nat → Int32) (k487 : Nat) (sg_487 : Nat → Nat → Int32) (th_487 : Nat → Nat → Int32) : (Nat → Nat → Int32) × (Nat → Nat → Int32) :=
  L_X5_pass_522 sh sr sg k487 sg_487 5 0 sg_487 th_487
def S_X5_pass_487 (sh : Nat → Nat → Int32) (sr : Nat → Nat → Int32) (sg : Nat → Nat → Int32) (k487 : Nat) (sg_487 : Nat → Nat → Int32) (th_487 : Nat → Nat → Int32) : (Nat → Nat → Int32) × (Nat → Nat → Int32) :=
  ((I_X5_pass_522 sh sr sg k487 sg_487 th_487).1, (I_X5_pass_522 sh sr sg k487 sg_487 th_487).2)
def I_X5_pass_487 (sh : Nat → Nat → Int32) (sr : Nat → Nat → Int32) (sg : Nat → Nat → Int32) (R : Nat) (G : Nat) (n : Nat) : (Nat → Nat → Int32) × (Nat → Nat → Int32) :=
  it (fun (k : Nat) (v : (Nat → Nat → Int32) × (Nat → Nat → Int32)) => S_X5_pass_487 sh sr sg k v.1 v.2) G 0 ((I_X5_pass_321 sh sr sg R G n).2, (I_X5_pass_197 sh sr sg R G))
def S_X5_pass_615 (R : Nat) (n : Nat) (k615 : Nat) (sf_615 : Int32) (sg_615 : Nat → Nat → Int32) : Int32 × (Nat → Nat → Int32) :=
  if (F_X5_isIn sg_615 k615 (rmd (nI n) (nI R))) = 0 then
    (sf_615, sg_615)
  else
    ((sf_615 + (sg_615 k615 2)), (up2 sg_615 k615 2 0))
def I_X5_pass_615 (sf : Int32) (sh : Nat → Nat → Int32) (sr : Nat → Nat → Int32) (sg : Nat → Nat → Int32) (R : Nat) (G : Nat) (n : Nat) : Int32 × (Nat → Nat → Int32) :=
  it (fun (k : Nat) (v : Int32 × (Nat → Nat → Int32)) => S_X5_pass_615 R n k v.1 v.2) G 0 (sf, (I_X5_pass_487 sh sr sg R G n).1)
def S_X5_pass_688 (sr : Nat → Nat → Int32) (R : Nat) (k678 : Nat) (k688 : Nat) (th_688 : Nat → Nat → Int32) : Nat → Nat → Int32 :=
  if (F_X5_lit sr R (nI k678)) = 0 then
    (up2 th_688 k678 k688 (mn 40 (((th_688 k678 k688) / 10) + (th_688 k678 k688))))
  else
    th_688
def I_X5_pass_688 (sr : Nat → Nat → Int32) (R : Nat) (k678 : Nat) (th_678 : Nat → Nat → Int32) : Nat → Nat → Int32 :=
  it (fun (k : Nat) (v : Nat → Nat → Int32) => S_X5_pass_688 sr R k678 k v) 5 0 th_678
def S_X5_pass_678 (sr : Nat → Nat → Int32) (R : Nat) (k678 : Nat) (th_678 : Nat → Nat → Int32) : Nat → Nat → Int32 :=
  (I_X5_pass_688 sr R k678 th_678)
def I_X5_pass_678 (sh : Nat → Nat → Int32) (sr : Nat → Nat → Int32) (sg : Nat → Nat → Int32) (R : Nat) (G : Nat) (n : Nat) : Nat → Nat → Int32 :=
  it (fun (k : Nat) (v : Nat → Nat → Int32) => S_X5_pass_678 sr R k v) 10 0 (I_X5_pass_487 sh sr sg R G n).2
def F_X5_pass (sf : Int32) (sh : Nat → Nat → Int32) (sr : Nat → Nat → Int32) (sg : Nat → Nat → Int32) (R : Nat) (G : Nat) (n : Nat) : Int32 × (Nat → Nat → Int32) × (Nat → Nat → Int32) × Int32 × Int32 :=
  ((I_X5_pass_321 sh sr sg R G n).1, (I_X5_pass_678 sh sr sg R G n), (I_X5_pass_615 sf sh sr sg R G n).2, (nI (n + 1)), (I_X5_pass_615 sf sh sr sg R G n).1)
set_option maxHeartbeats 4000000 in
set_option maxRecDepth 100000 in
theorem k_X5_pass (l : Launch) (D : va_G) (cy : Nat → ClassId) (sz : Nat) (qm ho ro go : Nat) (ah ar ag : Nat → Nat) (Y : va_W) (sf : Int32) (sh : Nat → Nat → Int32) (sr : Nat → Nat → Int32) (sg : Nat → Nat → Int32) (R : Nat) (G : Nat) (n : Nat) (hR : R ≤ 6) (hG : G ≤ 12) (hn31 : n < 2 ^ 30) (hSI : SI R G sr sg) : MTa l D cy yX5_pass wsX5_pass 2 12 68 62 ([(qm, .inr (5, [.ref ho, .ref ro, .ref go, .int (nI n), .int sf])), (ho, .inl (cy 3, 10, .inr (.inr (.inr (.inr (pf 10 ah)))))), (ro, .inl (cy 3, R, .inr (.inr (.inr (.inr (pf R ar)))))), (go, .inl (cy 3, G, .inr (.inr (.inr (.inr (pf G ag))))))] ++ (rws cy 10 5 ah sh ++ (rws cy R 2 ar sr ++ (rws cy G 6 ag sg ++ Y)))) sz [.ref qm] (fun A => QiE D cy (fun (r : Int32) (x9 : (Nat → Nat) × Nat) => r = ((F_X5_pass sf sh sr sg R G n)).1) (fun (x9 : (Nat → Nat) × Nat) => [(qm, .inr (5, [.ref x9.2, .ref ro, .ref go, .int ((F_X5_pass sf sh sr sg R G n)).2.2.2.1, .int ((F_X5_pass sf sh sr sg R G n)).2.2.2.2])), (x9.2, .inl (cy 3, 10, .inr (.inr (.inr (.inr (pf 10 x9.1)))))), (ro, .inl (cy 3, R, .inr (.inr (.inr (.inr (pf R ar)))))), (go, .inl (cy 3, G, .inr (.inr (.inr (.inr (pf G ag))))))] ++ (rws cy 10 5 x9.1 ((F_X5_pass sf sh sr sg R G n)).2.1 ++ (rws cy R 2 ar sr ++ (rws cy G 6 ag ((F_X5_pass sf sh sr sg R G n)).2.2.1 ++ Y)))) A) := by
  refine ofWT (cc := cX5_pass) (maxL := 12) (ret := (some .int)) (own := RX5) (by decide) rfl (Nat.le_of_ble_eq_true rfl) rfl ?_
  intro p e s m args below meth c A ls hx hb hr hml hts hown hlocks hin hN hK hP hD hA hl
  have hS : va_S A s.heap s.heap [] := va_S.rf
  have hl : lv_has ls 12 [(0, .ref qm)] := hl
  have hin5 : ∀ w ∈ u_ws RX5 TX5 5, w ∈ wsX5_pass := (fun w h => List.mem_cons_of_mem _ (List.mem_append_right _ h))
  generalize hQ : MQ below ((fun A => QiE D cy (fun (r : Int32) (x9 : (Nat → Nat) × Nat) => r = ((F_X5_pass sf sh sr sg R G n)).1) (fun (x9 : (Nat → Nat) × Nat) => [(qm, .inr (5, [.ref x9.2, .ref ro, .ref go, .int ((F_X5_pass sf sh sr sg R G n)).2.2.2.1, .int ((F_X5_pass sf sh sr sg R G n)).2.2.2.2])), (x9.2, .inl (cy 3, 10, .inr (.inr (.inr (.inr (pf 10 x9.1)))))), (ro, .inl (cy 3, R, .inr (.inr (.inr (.inr (pf R ar)))))), (go, .inl (cy 3, G, .inr (.inr (.inr (.inr (pf G ag))))))] ++ (rws cy 10 5 x9.1 ((F_X5_pass sf sh sr sg R G n)).2.1 ++ (rws cy R 2 ar sr ++ (rws cy G 6 ag ((F_X5_pass sf sh sr sg R G n)).2.2.1 ++ Y)))) A) A) args s 12 68 A = Q
  refine lv_aload_n hx hb dX5_pass_0 rfl (lv_at hl 0 rfl) ?_
  refine va_get (D := D) (ci := 5) (v := .ref ho) (C := RX5) (T := TX5) (N := 5) hx hb hts hin5 hown hK hP 0 rfl rfl 0 (by decide) (hts (.fieldLink RX5 9 "FireflyInnLaw$Sim" "hedge" "[[I") (List.mem_of_getElem? (i := 1) rfl)) (fun _ h9 => h9) rfl dX5_pass_1 ?_
  refine cl_rP (S := Nat → Nat) (X := [(qm, .inr (5, [.ref ho, .ref ro, .ref go, .int (nI n), .int sf])), (ho, .inl (cy 3, 10, .inr (.inr (.inr (.inr (pf 10 ah)))))), (ro, .inl (cy 3, R, .inr (.inr (.inr (.inr (pf R ar)))))), (go, .inl (cy 3, G, .inr (.inr (.inr (.inr (pf G ag))))))]) (wr := [(qm, .inr (5, [.ref ho, .ref ro, .ref go, .int (nI n), .int sf])), (ro, .inl (cy 3, R, .inr (.inr (.inr (.inr (pf R ar)))))), (go, .inl (cy 3, G, .inr (.inr (.inr (.inr (pf G ag))))))]) (rx := fun un ra => [(ho, .inl (cy 3, 10, .inr (.inr (.inr (.inr (pf 10 ah)))))), (ra, .inl (cy 3, 10, .inr (.inr (.inr (.inr (pf 10 un))))))]) (p1 := fun un _ => (rws cy 10 5 ah sh ++ (rws cy R 2 ar sr ++ (rws cy G 6 ag sg ++ Y))) ++ rws cy 10 5 un sh) (rn_SP (As := [.ref ho]) (rest := []) ⟨hx, hb, hml, hown, hts⟩ (k_X5_all l D cy _ ho ah (rws cy R 2 ar sr ++ (rws cy G 6 ag sg ++ Y)) sh) (va_cwS 1 hts gX5_pass_X5_all rfl rfl rfl (by decide +kernel) ⟨Nat.le_of_ble_eq_true rfl, Nat.le_of_ble_eq_true rfl⟩) hN hK hP hD [1] rfl (by decide) rfl hl.1 rfl (Nat.le_of_ble_eq_true rfl) dX5_pass_4 ⟨(show 0 + 11 ≤ 12 by omega), (show 0 + 60 ≤ 68 by omega)⟩) hP hD hS hA [1] [0, 2, 3] rfl rfl (by decide) (by decide) (fun _ _ => rfl) (fun un on H locs hP hD hS => ?_)
  have hP : va_P D vwCl ([(qm, .inr (5, [.ref ho, .ref ro, .ref go, .int (nI n), .int sf])), (ho, .inl (cy 3, 10, .inr (.inr (.inr (.inr (pf 10 ah)))))), (ro, .inl (cy 3, R, .inr (.inr (.inr (.inr (pf R ar)))))), (go, .inl (cy 3, G, .inr (.inr (.inr (.inr (pf G ag)))))), (on, .inl (cy 3, 10, .inr (.inr (.inr (.inr (pf 10 un))))))] ++ (rws cy 10 5 ah sh ++ (rws cy R 2 ar sr ++ (rws cy G 6 ag sg ++ (rws cy 10 5 un sh ++ Y))))) H := va_P.part (X := ([(qm, .inr (5, [.ref ho, .ref ro, .ref go, .int (nI n), .int sf])), (ro, .inl (cy 3, R, .inr (.inr (.inr (.inr (pf R ar)))))), (go, .inl (cy 3, G, .inr (.inr (.inr (.inr (pf G ag))))))] ++ [(ho, .inl (cy 3, 10, .inr (.inr (.inr (.inr (pf 10 ah)))))), (on, .inl (cy 3, 10, .inr (.inr (.inr (.inr (pf 10 un))))))])) (va_P.tuck (F := ([(qm, .inr (5, [.ref ho, .ref ro, .ref go, .int (nI n), .int sf])), (ro, .inl (cy 3, R, .inr (.inr (.inr (.inr (pf R ar)))))), (go, .inl (cy 3, G, .inr (.inr (.inr (.inr (pf G ag))))))] ++ [(ho, .inl (cy 3, 10, .inr (.inr (.inr (.inr (pf 10 ah)))))), (on, .inl (cy 3, 10, .inr (.inr (.inr (.inr (pf 10 un))))))])) hP) [0, 3, 1, 2, 4] rfl
  have hD : va_D A ([(qm, .inr (5, [.ref ho, .ref ro, .ref go, .int (nI n), .int sf])), (ho, .inl (cy 3, 10, .inr (.inr (.inr (.inr (pf 10 ah)))))), (ro, .inl (cy 3, R, .inr (.inr (.inr (.inr (pf R ar)))))), (go, .inl (cy 3, G, .inr (.inr (.inr (.inr (pf G ag)))))), (on, .inl (cy 3, 10, .inr (.inr (.inr (.inr (pf 10 un))))))] ++ (rws cy 10 5 ah sh ++ (rws cy R 2 ar sr ++ (rws cy G 6 ag sg ++ (rws cy 10 5 un sh ++ Y))))) := va_D.part (X := ([(qm, .inr (5, [.ref ho, .ref ro, .ref go, .int (nI n), .int sf])), (ro, .inl (cy 3, R, .inr (.inr (.inr (.inr (pf R ar)))))), (go, .inl (cy 3, G, .inr (.inr (.inr (.inr (pf G ag))))))] ++ [(ho, .inl (cy 3, 10, .inr (.inr (.inr (.inr (pf 10 ah)))))), (on, .inl (cy 3, 10, .inr (.inr (.inr (.inr (pf 10 un))))))])) (va_D.tuck (F := ([(qm, .inr (5, [.ref ho, .ref ro, .ref go, .int (nI n), .int sf])), (ro, .inl (cy 3, R, .inr (.inr (.inr (.inr (pf R ar)))))), (go, .inl (cy 3, G, .inr (.inr (.inr (.inr (pf G ag))))))] ++ [(ho, .inl (cy 3, 10, .inr (.inr (.inr (.inr (pf 10 ah)))))), (on, .inl (cy 3, 10, .inr (.inr (.inr (.inr (pf 10 un))))))])) hD) [0, 3, 1, 2, 4] (by decide) rfl
  refine lv_astore_n (lv' := [(1, .ref on), (0, .ref qm)]) hx hb dX5_pass_7 rfl hl (by decide) rfl (fun ls hl => ?_)
  refine lv_iconst (v := 0) hx hb dX5_pass_8 (by decide) ?_
  refine lv_istore_n (lv' := [(2, .int 0), (1, .ref on), (0, .ref qm)]) hx hb dX5_pass_9 rfl hl (by decide) rfl (fun ls hl => ?_)
  obtain ⟨fin10, hfin10⟩ : ∃ z, (I_X5_pass_10 sh sr R) = z := ⟨_, rfl⟩
  suffices kk10 : ∀ (H : Heap) (locs : List Loc) (ls : Array Slot), va_P D vwCl ([(qm, .inr (5, [.ref ho, .ref ro, .ref go, .int (nI n), .int sf])), (ho, .inl (cy 3, 10, .inr (.inr (.inr (.inr (pf 10 ah)))))), (ro, .inl (cy 3, R, .inr (.inr (.inr (.inr (pf R ar)))))), (go, .inl (cy 3, G, .inr (.inr (.inr (.inr (pf G ag)))))), (on, .inl (cy 3, 10, .inr (.inr (.inr (.inr (pf 10 un))))))] ++ (rws cy 10 5 ah sh ++ (rws cy R 2 ar sr ++ (rws cy G 6 ag sg ++ (rws cy 10 5 un fin10 ++ Y))))) H → va_D A ([(qm, .inr (5, [.ref ho, .ref ro, .ref go, .int (nI n), .int sf])), (ho, .inl (cy 3, 10, .inr (.inr (.inr (.inr (pf 10 ah)))))), (ro, .inl (cy 3, R, .inr (.inr (.inr (.inr (pf R ar)))))), (go, .inl (cy 3, G, .inr (.inr (.inr (.inr (pf G ag)))))), (on, .inl (cy 3, 10, .inr (.inr (.inr (.inr (pf 10 un))))))] ++ (rws cy 10 5 ah sh ++ (rws cy R 2 ar sr ++ (rws cy G 6 ag sg ++ (rws cy 10 5 un fin10 ++ Y))))) → va_S A s.heap H locs → lv_has ls 12 [(2, .int (nI 10)), (1, .ref on), (0, .ref qm)] → W p l e (RM 2 12 68 62) s m args below meth c H locs (0 + 11) (0 + 60) Q (F0 m 132 ls []) by
    have lp10 : ∀ (n10 k10 : Nat) (th_10 : Nat → Nat → Int32) (H : Heap) (locs : List Loc) (ls : Array Slot), k10 + n10 = 10 → it (fun (k : Nat) (v : Nat → Nat → Int32) => S_X5_pass_10 sh sr R k v) n10 k10 th_10 = fin10 → va_P D vwCl ([(qm, .inr (5, [.ref ho, .ref ro, .ref go, .int (nI n), .int sf])), (ho, .inl (cy 3, 10, .inr (.inr (.inr (.inr (pf 10 ah)))))), (ro, .inl (cy 3, R, .inr (.inr (.inr (.inr (pf R ar)))))), (go, .inl (cy 3, G, .inr (.inr (.inr (.inr (pf G ag)))))), (on, .inl (cy 3, 10, .inr (.inr (.inr (.inr (pf 10 un))))))] ++ (rws cy 10 5 ah sh ++ (rws cy R 2 ar sr ++ (rws cy G 6 ag sg ++ (rws cy 10 5 un th_10 ++ Y))))) H → va_D A ([(qm, .inr (5, [.ref ho, .ref ro, .ref go, .int (nI n), .int sf])), (ho, .inl (cy 3, 10, .inr (.inr (.inr (.inr (pf 10 ah)))))), (ro, .inl (cy 3, R, .inr (.inr (.inr (.inr (pf R ar)))))), (go, .inl (cy 3, G, .inr (.inr (.inr (.inr (pf G ag)))))), (on, .inl (cy 3, 10, .inr (.inr (.inr (.inr (pf 10 un))))))] ++ (rws cy 10 5 ah sh ++ (rws cy R 2 ar sr ++ (rws cy G 6 ag sg ++ (rws cy 10 5 un th_10 ++ Y))))) → va_S A s.heap H locs → lv_has ls 12 [(2, .int (nI k10)), (1, .ref on), (0, .ref qm)] → W p l e (RM 2 12 68 62) s m args below meth c H locs (0 + 11) (0 + 60) Q (F0 m 10 ls []) := by
      intro n10
      induction n10 with
      | zero =>
        intro k10 th_10 H locs ls hkn10 hE10 hP hD hS hl
        have hk10 : 10 = k10 := by omega
        subst hk10
        have hE10 : th_10 = fin10 := hE10
        subst hE10
        refine lv_iload_n hx hb dX5_pass_10 rfl (lv_at hl 0 rfl) ?_
        refine lv_bipush (v := 10) hx hb dX5_pass_11 (by decide) ?_
        refine lv_icmp_ge (tgt := 132) hx hb dX5_pass_13 (by decide) (fun c13 => ?_) (fun c13 => ?_)
        rotate_left
        · exact absurd (nI_le (a := 10) (b := 10) (Nat.le_refl _) (by decide)) c13
        exact kk10 _ _ _ hP hD hS (lv_sub hl [0, 1, 2] rfl)
      | succ n10 ih10 =>
        intro k10 th_10 H locs ls hkn10 hE10 hP hD hS hl
        have hlt10 : k10 < 10 := by omega
        refine lv_iload_n hx hb dX5_pass_10 rfl (lv_at hl 0 rfl) ?_
        refine lv_bipush (v := 10) hx hb dX5_pass_11 (by decide) ?_
        refine lv_icmp_ge (tgt := 132) hx hb dX5_pass_13 (by decide) (fun c13 => ?_) (fun c13 => ?_)
        · exact absurd c13 (nI_ge (a := k10) (b := 10) hlt10 (by decide))
        refine lv_aload_n hx hb dX5_pass_16 rfl (lv_at hl 2 rfl) ?_
        refine lv_iload_n hx hb dX5_pass_17 rfl (lv_at hl 0 rfl) ?_
        refine cl_iP (S := Unit) (X := [(qm, .inr (5, [.ref ho, .ref ro, .ref go, .int (nI n), .int sf])), (ho, .inl (cy 3, 10, .inr (.inr (.inr (.inr (pf 10 ah)))))), (ro, .inl (cy 3, R, .inr (.inr (.inr (.inr (pf R ar)))))), (go, .inl (cy 3, G, .inr (.inr (.inr (.inr (pf G ag)))))), (on, .inl (cy 3, 10, .inr (.inr (.inr (.inr (pf 10 un))))))]) (wr := [(on, .inl (cy 3, 10, .inr (.inr (.inr (.inr (pf 10 un))))))]) (rx := fun _ => [(qm, .inr (5, [.ref ho, .ref ro, .ref go, .int (nI n), .int sf])), (ho, .inl (cy 3, 10, .inr (.inr (.inr (.inr (pf 10 ah)))))), (ro, .inl (cy 3, R, .inr (.inr (.inr (.inr (pf R ar)))))), (go, .inl (cy 3, G, .inr (.inr (.inr (.inr (pf G ag))))))]) (p1 := fun _ => (rws cy 10 5 ah sh ++ (rws cy R 2 ar sr ++ (rws cy G 6 ag sg ++ (rws cy 10 5 un th_10 ++ Y))))) (rn_VP (As := [.int (nI k10)]) (rest := []) (ci := 5) (q0 := 0) ⟨hx, hb, hml, hown, hts⟩ (k_X5_lit l D cy _ qm ho ro go ah ar ag (rws cy 10 5 un th_10 ++ Y) (nI n) sf sh sr sg R G (nI k10) (by omega) (by omega)) (cwV 1 hts gX5_pass_X5_lit rfl rfl rfl (by decide +kernel) ⟨Nat.le_of_ble_eq_true rfl, Nat.le_of_ble_eq_true rfl⟩) hN hK hP hD [0, 1, 2, 3] rfl (by decide) rfl rfl rfl rfl hl.1 rfl (Nat.le_of_ble_eq_true rfl) dX5_pass_18 ⟨(show (0 + 11) + 0 ≤ 12 by omega), (show (0 + 60) + 0 ≤ 68 by omega)⟩) hP hD hS hA [0, 1, 2, 3] [4] rfl rfl (by decide) (by decide) (fun _ => rfl) (fun r9 u9 H locs h9 hP hD hS => ?_)
        have h9 : r9 = (F_X5_lit sr R (nI k10)) := h9
        subst h9
        have hP : va_P D vwCl ([(qm, .inr (5, [.ref ho, .ref ro, .ref go, .int (nI n), .int sf])), (ho, .inl (cy 3, 10, .inr (.inr (.inr (.inr (pf 10 ah)))))), (ro, .inl (cy 3, R, .inr (.inr (.inr (.inr (pf R ar)))))), (go, .inl (cy 3, G, .inr (.inr (.inr (.inr (pf G ag)))))), (on, .inl (cy 3, 10, .inr (.inr (.inr (.inr (pf 10 un))))))] ++ (rws cy 10 5 ah sh ++ (rws cy R 2 ar sr ++ (rws cy G 6 ag sg ++ (rws cy 10 5 un th_10 ++ Y))))) H := va_P.part hP [1, 2, 3, 4, 0] rfl
        have hD : va_D A ([(qm, .inr (5, [.ref ho, .ref ro, .ref go, .int (nI n), .int sf])), (ho, .inl (cy 3, 10, .inr (.inr (.inr (.inr (pf 10 ah)))))), (ro, .inl (cy 3, R, .inr (.inr (.inr (.inr (pf R ar)))))), (go, .inl (cy 3, G, .inr (.inr (.inr (.inr (pf G ag)))))), (on, .inl (cy 3, 10, .inr (.inr (.inr (.inr (pf 10 un))))))] ++ (rws cy 10 5 ah sh ++ (rws cy R 2 ar sr ++ (rws cy G 6 ag sg ++ (rws cy 10 5 un th_10 ++ Y))))) := va_D.part hD [1, 2, 3, 4, 0] (by decide) rfl
        refine lv_if_ne (tgt := 27) hx hb dX5_pass_21 (by decide) (fun c21 => ?_) (fun c21 => ?_)
        · refine lv_iconst (v := (-1)) hx hb dX5_pass_27 (by decide) ?_
          refine lv_istore_n (lv' := [(3, .int (-1)), (2, .int (nI k10)), (1, .ref on), (0, .ref qm)]) hx hb dX5_pass_28 rfl hl (by decide) rfl (fun ls hl => ?_)
          refine lv_iload_n hx hb dX5_pass_29 rfl (lv_at hl 1 rfl) ?_
          refine lv_bipush (v := 9) hx hb dX5_pass_30 (by decide) ?_
          suffices kj32 : ∀ (z : Int32) (H : Heap) (locs : List Loc) (ls : Array Slot), z = (T_X5_pass_32 sr R k10) → va_P D vwCl ([(qm, .inr (5, [.ref ho, .ref ro, .ref go, .int (nI n), .int sf])), (ho, .inl (cy 3, 10, .inr (.inr (.inr (.inr (pf 10 ah)))))), (ro, .inl (cy 3, R, .inr (.inr (.inr (.inr (pf R ar)))))), (go, .inl (cy 3, G, .inr (.inr (.inr (.inr (pf G ag)))))), (on, .inl (cy 3, 10, .inr (.inr (.inr (.inr (pf 10 un))))))] ++ (rws cy 10 5 ah sh ++ (rws cy R 2 ar sr ++ (rws cy G 6 ag sg ++ (rws cy 10 5 un th_10 ++ Y))))) H → va_D A ([(qm, .inr (5, [.ref ho, .ref ro, .ref go, .int (nI n), .int sf])), (ho, .inl (cy 3, 10, .inr (.inr (.inr (.inr (pf 10 ah)))))), (ro, .inl (cy 3, R, .inr (.inr (.inr (.inr (pf R ar)))))), (go, .inl (cy 3, G, .inr (.inr (.inr (.inr (pf G ag)))))), (on, .inl (cy 3, 10, .inr (.inr (.inr (.inr (pf 10 un))))))] ++ (rws cy 10 5 ah sh ++ (rws cy R 2 ar sr ++ (rws cy G 6 ag sg ++ (rws cy 10 5 un th_10 ++ Y))))) → va_S A s.heap H locs → lv_has ls 12 [(3, .int z), (2, .int (nI k10)), (1, .ref on), (0, .ref qm)] → W p l e (RM 2 12 68 62) s m args below meth c H locs (((0 + 11) + 0) + 0) (((0 + 60) + 0) + 0) Q (F0 m 49 ls []) by
            refine lv_icmp_ge (tgt := 49) hx hb dX5_pass_32 (by decide) (fun c32 => ?_) (fun c32 => ?_)
            · exact kj32 _ _ _ _ (show (-1) = (T_X5_pass_32 sr R k10) from (by rw [T_X5_pass_32, if_pos c32] : (T_X5_pass_32 sr R k10) = (-1)).symm) hP hD hS (lv_sub hl [0, 1, 2, 3] rfl)
            · refine lv_aload_n hx hb dX5_pass_35 rfl (lv_at hl 3 rfl) ?_
              refine lv_iload_n hx hb dX5_pass_36 rfl (lv_at hl 1 rfl) ?_
              refine lv_iconst (v := 1) hx hb dX5_pass_37 (by decide) ?_
              refine lv_iadd hx hb dX5_pass_38 ?_
              refine lv_iv (y := (nI (k10 + 1))) (nI_add k10 1) ?_
              refine cl_iP (S := Unit) (X := [(qm, .inr (5, [.ref ho, .ref ro, .ref go, .int (nI n), .int sf])), (ho, .inl (cy 3, 10, .inr (.inr (.inr (.inr (pf 10 ah)))))), (ro, .inl (cy 3, R, .inr (.inr (.inr (.inr (pf R ar)))))), (go, .inl (cy 3, G, .inr (.inr (.inr (.inr (pf G ag)))))), (on, .inl (cy 3, 10, .inr (.inr (.inr (.inr (pf 10 un))))))]) (wr := [(on, .inl (cy 3, 10, .inr (.inr (.inr (.inr (pf 10 un))))))]) (rx := fun _ => [(qm, .inr (5, [.ref ho, .ref ro, .ref go, .int (nI n), .int sf])), (ho, .inl (cy 3, 10, .inr (.inr (.inr (.inr (pf 10 ah)))))), (ro, .inl (cy 3, R, .inr (.inr (.inr (.inr (pf R ar)))))), (go, .inl (cy 3, G, .inr (.inr (.inr (.inr (pf G ag))))))]) (p1 := fun _ => (rws cy 10 5 ah sh ++ (rws cy R 2 ar sr ++ (rws cy G 6 ag sg ++ (rws cy 10 5 un th_10 ++ Y))))) (rn_VP (As := [.int (nI (k10 + 1))]) (rest := []) (ci := 5) (q0 := 0) ⟨hx, hb, hml, hown, hts⟩ (k_X5_lit l D cy _ qm ho ro go ah ar ag (rws cy 10 5 un th_10 ++ Y) (nI n) sf sh sr sg R G (nI (k10 + 1)) (by omega) (by omega)) (cwV 1 hts gX5_pass_X5_lit rfl rfl rfl (by decide +kernel) ⟨Nat.le_of_ble_eq_true rfl, Nat.le_of_ble_eq_true rfl⟩) hN hK hP hD [0, 1, 2, 3] rfl (by decide) rfl rfl rfl rfl hl.1 rfl (Nat.le_of_ble_eq_true rfl) dX5_pass_39 ⟨(show (((0 + 11) + 0) + 0) + 0 ≤ 12 by omega), (show (((0 + 60) + 0) + 0) + 0 ≤ 68 by omega)⟩) hP hD hS hA [0, 1, 2, 3] [4] rfl rfl (by decide) (by decide) (fun _ => rfl) (fun r9 u9 H locs h9 hP hD hS => ?_)
              have h9 : r9 = (F_X5_lit sr R (nI (k10 + 1))) := h9
              subst h9
              have hP : va_P D vwCl ([(qm, .inr (5, [.ref ho, .ref ro, .ref go, .int (nI n), .int sf])), (ho, .inl (cy 3, 10, .inr (.inr (.inr (.inr (pf 10 ah)))))), (ro, .inl (cy 3, R, .inr (.inr (.inr (.inr (pf R ar)))))), (go, .inl (cy 3, G, .inr (.inr (.inr (.inr (pf G ag)))))), (on, .inl (cy 3, 10, .inr (.inr (.inr (.inr (pf 10 un))))))] ++ (rws cy 10 5 ah sh ++ (rws cy R 2 ar sr ++ (rws cy G 6 ag sg ++ (rws cy 10 5 un th_10 ++ Y))))) H := va_P.part hP [1, 2, 3, 4, 0] rfl
              have hD : va_D A ([(qm, .inr (5, [.ref ho, .ref ro, .ref go, .int (nI n), .int sf])), (ho, .inl (cy 3, 10, .inr (.inr (.inr (.inr (pf 10 ah)))))), (ro, .inl (cy 3, R, .inr (.inr (.inr (.inr (pf R ar)))))), (go, .inl (cy 3, G, .inr (.inr (.inr (.inr (pf G ag)))))), (on, .inl (cy 3, 10, .inr (.inr (.inr (.inr (pf 10 un))))))] ++ (rws cy 10 5 ah sh ++ (rws cy R 2 ar sr ++ (rws cy G 6 ag sg ++ (rws cy 10 5 un th_10 ++ Y))))) := va_D.part hD [1, 2, 3, 4, 0] (by decide) rfl
              refine lv_if_ne (tgt := 49) hx hb dX5_pass_42 (by decide) (fun c42 => ?_) (fun c42 => ?_)
              · exact kj32 _ _ _ _ (show (-1) = (T_X5_pass_32 sr R k10) from (by rw [T_X5_pass_32, if_neg c32, if_neg c42] : (T_X5_pass_32 sr R k10) = (-1)).symm) hP hD hS (lv_sub hl [0, 1, 2, 3] rfl)
              · refine lv_iload_n hx hb dX5_pass_45 rfl (lv_at hl 1 rfl) ?_
                refine lv_iconst (v := 1) hx hb dX5_pass_46 (by decide) ?_
                refine lv_iadd hx hb dX5_pass_47 ?_
                refine lv_iv (y := (nI (k10 + 1))) (nI_add k10 1) ?_
                refine lv_istore_n (lv' := [(3, .int (nI (k10 + 1))), (2, .int (nI k10)), (1, .ref on), (0, .ref qm)]) hx hb dX5_pass_48 rfl hl (by decide) rfl (fun ls hl => ?_)
                exact kj32 _ _ _ _ (show (nI (k10 + 1)) = (T_X5_pass_32 sr R k10) from (by rw [T_X5_pass_32, if_neg c32, if_pos c42] : (T_X5_pass_32 sr R k10) = (nI (k10 + 1))).symm) hP hD hS (lv_sub hl [0, 1, 2, 3] rfl)
          intro z H locs ls hz hP hD hS hl
          subst hz
          refine lv_iload_n hx hb dX5_pass_49 rfl (lv_at hl 1 rfl) ?_
          suffices kj50 : ∀ (z : Int32) (H : Heap) (locs : List Loc) (ls : Array Slot), z = (T_X5_pass_50 sr R k10) → va_P D vwCl ([(qm, .inr (5, [.ref ho, .ref ro, .ref go, .int (nI n), .int sf])), (ho, .inl (cy 3, 10, .inr (.inr (.inr (.inr (pf 10 ah)))))), (ro, .inl (cy 3, R, .inr (.inr (.inr (.inr (pf R ar)))))), (go, .inl (cy 3, G, .inr (.inr (.inr (.inr (pf G ag)))))), (on, .inl (cy 3, 10, .inr (.inr (.inr (.inr (pf 10 un))))))] ++ (rws cy 10 5 ah sh ++ (rws cy R 2 ar sr ++ (rws cy G 6 ag sg ++ (rws cy 10 5 un th_10 ++ Y))))) H → va_D A ([(qm, .inr (5, [.ref ho, .ref ro, .ref go, .int (nI n), .int sf])), (ho, .inl (cy 3, 10, .inr (.inr (.inr (.inr (pf 10 ah)))))), (ro, .inl (cy 3, R, .inr (.inr (.inr (.inr (pf R ar)))))), (go, .inl (cy 3, G, .inr (.inr (.inr (.inr (pf G ag)))))), (on, .inl (cy 3, 10, .inr (.inr (.inr (.inr (pf 10 un))))))] ++ (rws cy 10 5 ah sh ++ (rws cy R 2 ar sr ++ (rws cy G 6 ag sg ++ (rws cy 10 5 un th_10 ++ Y))))) → va_S A s.heap H locs → lv_has ls 12 [(3, .int z), (2, .int (nI k10)), (1, .ref on), (0, .ref qm)] → W p l e (RM 2 12 68 62) s m args below meth c H locs (((((0 + 11) + 0) + 0) + 0) + 0) (((((0 + 60) + 0) + 0) + 0) + 0) Q (F0 m 67 ls []) by
            refine lv_if_le (tgt := 67) hx hb dX5_pass_50 (by decide) (fun c50 => ?_) (fun c50 => ?_)
            · exact kj50 _ _ _ _ (show (T_X5_pass_32 sr R k10) = (T_X5_pass_50 sr R k10) from (by rw [T_X5_pass_50, if_pos c50] : (T_X5_pass_50 sr R k10) = (T_X5_pass_32 sr R k10)).symm) hP hD hS (lv_sub hl [0, 1, 2, 3] rfl)
            · refine lv_aload_n hx hb dX5_pass_53 rfl (lv_at hl 3 rfl) ?_
              refine lv_iload_n hx hb dX5_pass_54 rfl (lv_at hl 1 rfl) ?_
              refine lv_iconst (v := 1) hx hb dX5_pass_55 (by decide) ?_
              refine lv_isub hx hb dX5_pass_56 ?_
              refine cl_iP (S := Unit) (X := [(qm, .inr (5, [.ref ho, .ref ro, .ref go, .int (nI n), .int sf])), (ho, .inl (cy 3, 10, .inr (.inr (.inr (.inr (pf 10 ah)))))), (ro, .inl (cy 3, R, .inr (.inr (.inr (.inr (pf R ar)))))), (go, .inl (cy 3, G, .inr (.inr (.inr (.inr (pf G ag)))))), (on, .inl (cy 3, 10, .inr (.inr (.inr (.inr (pf 10 un))))))]) (wr := [(on, .inl (cy 3, 10, .inr (.inr (.inr (.inr (pf 10 un))))))]) (rx := fun _ => [(qm, .inr (5, [.ref ho, .ref ro, .ref go, .int (nI n), .int sf])), (ho, .inl (cy 3, 10, .inr (.inr (.inr (.inr (pf 10 ah)))))), (ro, .inl (cy 3, R, .inr (.inr (.inr (.inr (pf R ar)))))), (go, .inl (cy 3, G, .inr (.inr (.inr (.inr (pf G ag))))))]) (p1 := fun _ => (rws cy 10 5 ah sh ++ (rws cy R 2 ar sr ++ (rws cy G 6 ag sg ++ (rws cy 10 5 un th_10 ++ Y))))) (rn_VP (As := [.int ((nI k10) - 1)]) (rest := []) (ci := 5) (q0 := 0) ⟨hx, hb, hml, hown, hts⟩ (k_X5_lit l D cy _ qm ho ro go ah ar ag (rws cy 10 5 un th_10 ++ Y) (nI n) sf sh sr sg R G ((nI k10) - 1) (by omega) (by omega)) (cwV 1 hts gX5_pass_X5_lit rfl rfl rfl (by decide +kernel) ⟨Nat.le_of_ble_eq_true rfl, Nat.le_of_ble_eq_true rfl⟩) hN hK hP hD [0, 1, 2, 3] rfl (by decide) rfl rfl rfl rfl hl.1 rfl (Nat.le_of_ble_eq_true rfl) dX5_pass_57 ⟨(show (((((0 + 11) + 0) + 0) + 0) + 0) + 0 ≤ 12 by omega), (show (((((0 + 60) + 0) + 0) + 0) + 0) + 0 ≤ 68 by omega)⟩) hP hD hS hA [0, 1, 2, 3] [4] rfl rfl (by decide) (by decide) (fun _ => rfl) (fun r9 u9 H locs h9 hP hD hS => ?_)
              have h9 : r9 = (F_X5_lit sr R ((nI k10) - 1)) := h9
              subst h9
              have hP : va_P D vwCl ([(qm, .inr (5, [.ref ho, .ref ro, .ref go, .int (nI n), .int sf])), (ho, .inl (cy 3, 10, .inr (.inr (.inr (.inr (pf 10 ah)))))), (ro, .inl (cy 3, R, .inr (.inr (.inr (.inr (pf R ar)))))), (go, .inl (cy 3, G, .inr (.inr (.inr (.inr (pf G ag)))))), (on, .inl (cy 3, 10, .inr (.inr (.inr (.inr (pf 10 un))))))] ++ (rws cy 10 5 ah sh ++ (rws cy R 2 ar sr ++ (rws cy G 6 ag sg ++ (rws cy 10 5 un th_10 ++ Y))))) H := va_P.part hP [1, 2, 3, 4, 0] rfl
              have hD : va_D A ([(qm, .inr (5, [.ref ho, .ref ro, .ref go, .int (nI n), .int sf])), (ho, .inl (cy 3, 10, .inr (.inr (.inr (.inr (pf 10 ah)))))), (ro, .inl (cy 3, R, .inr (.inr (.inr (.inr (pf R ar)))))), (go, .inl (cy 3, G, .inr (.inr (.inr (.inr (pf G ag)))))), (on, .inl (cy 3, 10, .inr (.inr (.inr (.inr (pf 10 un))))))] ++ (rws cy 10 5 ah sh ++ (rws cy R 2 ar sr ++ (rws cy G 6 ag sg ++ (rws cy 10 5 un th_10 ++ Y))))) := va_D.part hD [1, 2, 3, 4, 0] (by decide) rfl
              refine lv_if_ne (tgt := 67) hx hb dX5_pass_60 (by decide) (fun c60 => ?_) (fun c60 => ?_)
              · exact kj50 _ _ _ _ (show (T_X5_pass_32 sr R k10) = (T_X5_pass_50 sr R k10) from (by rw [T_X5_pass_50, if_neg c50, if_neg c60] : (T_X5_pass_50 sr R k10) = (T_X5_pass_32 sr R k10)).symm) hP hD hS (lv_sub hl [0, 1, 2, 3] rfl)
              · refine lv_iload_n hx hb dX5_pass_63 rfl (lv_at hl 1 rfl) ?_
                refine lv_iconst (v := 1) hx hb dX5_pass_64 (by decide) ?_
                refine lv_isub hx hb dX5_pass_65 ?_
                refine lv_istore_n (lv' := [(3, .int ((nI k10) - 1)), (2, .int (nI k10)), (1, .ref on), (0, .ref qm)]) hx hb dX5_pass_66 rfl hl (by decide) rfl (fun ls hl => ?_)
                exact kj50 _ _ _ _ (show ((nI k10) - 1) = (T_X5_pass_50 sr R k10) from (by rw [T_X5_pass_50, if_neg c50, if_pos c60] : (T_X5_pass_50 sr R k10) = ((nI k10) - 1)).symm) hP hD hS (lv_sub hl [0, 1, 2, 3] rfl)
          intro z H locs ls hz hP hD hS hl
          subst hz
          refine lv_iconst (v := 0) hx hb dX5_pass_67 (by decide) ?_
          refine lv_istore (lv' := [(4, .int 0), (3, .int (T_X5_pass_50 sr R k10)), (2, .int (nI k10)), (1, .ref on), (0, .ref qm)]) hx hb dX5_pass_68 hl (by decide) rfl (fun ls hl => ?_)
          obtain ⟨fin70, hfin70⟩ : ∃ z, (I_X5_pass_70 sh sr R k10 th_10) = z := ⟨_, rfl⟩
          suffices kk70 : ∀ (H : Heap) (locs : List Loc) (ls : Array Slot), va_P D vwCl ([(qm, .inr (5, [.ref ho, .ref ro, .ref go, .int (nI n), .int sf])), (ho, .inl (cy 3, 10, .inr (.inr (.inr (.inr (pf 10 ah)))))), (ro, .inl (cy 3, R, .inr (.inr (.inr (.inr (pf R ar)))))), (go, .inl (cy 3, G, .inr (.inr (.inr (.inr (pf G ag)))))), (on, .inl (cy 3, 10, .inr (.inr (.inr (.inr (pf 10 un))))))] ++ (rws cy 10 5 ah sh ++ (rws cy R 2 ar sr ++ (rws cy G 6 ag sg ++ (rws cy 10 5 un fin70 ++ Y))))) H → va_D A ([(qm, .inr (5, [.ref ho, .ref ro, .ref go, .int (nI n), .int sf])), (ho, .inl (cy 3, 10, .inr (.inr (.inr (.inr (pf 10 ah)))))), (ro, .inl (cy 3, R, .inr (.inr (.inr (.inr (pf R ar)))))), (go, .inl (cy 3, G, .inr (.inr (.inr (.inr (pf G ag)))))), (on, .inl (cy 3, 10, .inr (.inr (.inr (.inr (pf 10 un))))))] ++ (rws cy 10 5 ah sh ++ (rws cy R 2 ar sr ++ (rws cy G 6 ag sg ++ (rws cy 10 5 un fin70 ++ Y))))) → va_S A s.heap H locs → lv_has ls 12 [(3, .int (T_X5_pass_50 sr R k10)), (2, .int (nI k10)), (1, .ref on), (0, .ref qm)] → W p l e (RM 2 12 68 62) s m args below meth c H locs ((((((0 + 11) + 0) + 0) + 0) + 0) + 0) ((((((0 + 60) + 0) + 0) + 0) + 0) + 0) Q (F0 m 126 ls []) by
            have lp70 : ∀ (n70 k70 : Nat) (th_70 : Nat → Nat → Int32) (H : Heap) (locs : List Loc) (ls : Array Slot), k70 + n70 = 5 → L_X5_pass_70 sh sr R k10 n70 k70 th_70 = fin70 → va_P D vwCl ([(qm, .inr (5, [.ref ho, .ref ro, .ref go, .int (nI n), .int sf])), (ho, .inl (cy 3, 10, .inr (.inr (.inr (.inr (pf 10 ah)))))), (ro, .inl (cy 3, R, .inr (.inr (.inr (.inr (pf R ar)))))), (go, .inl (cy 3, G, .inr (.inr (.inr (.inr (pf G ag)))))), (on, .inl (cy 3, 10, .inr (.inr (.inr (.inr (pf 10 un))))))] ++ (rws cy 10 5 ah sh ++ (rws cy R 2 ar sr ++ (rws cy G 6 ag sg ++ (rws cy 10 5 un th_70 ++ Y))))) H → va_D A ([(qm, .inr (5, [.ref ho, .ref ro, .ref go, .int (nI n), .int sf])), (ho, .inl (cy 3, 10, .inr (.inr (.inr (.inr (pf 10 ah)))))), (ro, .inl (cy 3, R, .inr (.inr (.inr (.inr (pf R ar)))))), (go, .inl (cy 3, G, .inr (.inr (.inr (.inr (pf G ag)))))), (on, .inl (cy 3, 10, .inr (.inr (.inr (.inr (pf 10 un))))))] ++ (rws cy 10 5 ah sh ++ (rws cy R 2 ar sr ++ (rws cy G 6 ag sg ++ (rws cy 10 5 un th_70 ++ Y))))) → va_S A s.heap H locs → lv_has ls 12 [(4, .int (nI k70)), (3, .int (T_X5_pass_50 sr R k10)), (2, .int (nI k10)), (1, .ref on), (0, .ref qm)] → W p l e (RM 2 12 68 62) s m args below meth c H locs ((((((0 + 11) + 0) + 0) + 0) + 0) + 0) ((((((0 + 60) + 0) + 0) + 0) + 0) + 0) Q (F0 m 70 ls []) := by
              intro n70
              induction n70 with
              | zero =>
                intro k70 th_70 H locs ls hkn70 hE70 hP hD hS hl
                have hk70 : 5 = k70 := by omega
                subst hk70
                have hE70 : th_70 = fin70 := hE70
                subst hE70
                refine lv_iload hx hb dX5_pass_70 (lv_at hl 0 rfl) ?_
                refine lv_iconst (v := 5) hx hb dX5_pass_72 (by decide) ?_
                refine lv_icmp_ge (tgt := 126) hx hb dX5_pass_73 (by decide) (fun c73 => ?_) (fun c73 => ?_)
                rotate_left
                · exact absurd (nI_le (a := 5) (b := 5) (Nat.le_refl _) (by decide)) c73
                exact kk70 _ _ _ hP hD hS (lv_sub hl [1, 2, 3, 4] rfl)
              | succ n70 ih70 =>
                intro k70 th_70 H locs ls hkn70 hE70 hP hD hS hl
                have hlt70 : k70 < 5 := by omega
                refine lv_iload hx hb dX5_pass_70 (lv_at hl 0 rfl) ?_
                refine lv_iconst (v := 5) hx hb dX5_pass_72 (by decide) ?_
                refine lv_icmp_ge (tgt := 126) hx hb dX5_pass_73 (by decide) (fun c73 => ?_) (fun c73 => ?_)
                · exact absurd c73 (nI_ge (a := k70) (b := 5) hlt70 (by decide))
                refine lv_iload_n hx hb dX5_pass_76 rfl (lv_at hl 1 rfl) ?_
                refine lv_if_lt (tgt := 126) hx hb dX5_pass_77 (by decide) (fun c77 => ?_) (fun c77 => ?_)
                · have hq : th_70 = fin70 := (by rw [L_X5_pass_70, if_pos c77] : L_X5_pass_70 sh sr R k10 (n70 + 1) k70 th_70 = th_70).symm.trans hE70
                  subst hq
                  exact kk70 _ _ _ hP hD hS (lv_sub hl [1, 2, 3, 4] rfl)
                · refine lv_aload_n hx hb dX5_pass_80 rfl (lv_at hl 3 rfl) ?_
                  refine lv_iload_n hx hb dX5_pass_81 rfl (lv_at hl 2 rfl) ?_
                  refine ald_p (n := 10) (k := k10) hx hb hK hP 4 rfl (by omega) (by decide) dX5_pass_82 ?_
                  refine lv_iload hx hb dX5_pass_83 (lv_at hl 0 rfl) ?_
                  refine lv_dup2_11 hx hb dX5_pass_85 rfl rfl ?_
                  refine ial_w (k := k70) hx hb hK hP (RSl.app _ (RSl.app _ (RSl.app _ (RSl.app _ (RSl.left _ (RSl.row (by omega))))))) (by omega) (by decide) dX5_pass_86 ?_
                  refine lv_iv (y := (th_70 k10 k70)) rfl ?_
                  refine lv_aload_n hx hb dX5_pass_87 rfl (lv_at hl 4 rfl) ?_
                  refine va_get (D := D) (ci := 5) (v := .ref ho) (C := RX5) (T := TX5) (N := 5) hx hb hts hin5 hown hK hP 0 rfl rfl 0 (by decide) (hts (.fieldLink RX5 9 "FireflyInnLaw$Sim" "hedge" "[[I") (List.mem_of_getElem? (i := 1) rfl)) (fun _ h9 => h9) rfl dX5_pass_88 ?_
                  refine lv_iload_n hx hb dX5_pass_91 rfl (lv_at hl 2 rfl) ?_
                  refine ald_p (n := 10) (k := k10) hx hb hK hP 1 rfl (by omega) (by decide) dX5_pass_92 ?_
                  refine lv_iload hx hb dX5_pass_93 (lv_at hl 0 rfl) ?_
                  refine ial_w (k := k70) hx hb hK hP (RSl.app _ (RSl.left _ (RSl.row (by omega)))) (by omega) (by decide) dX5_pass_95 ?_
                  refine lv_iv (y := (sh k10 k70)) rfl ?_
                  refine lv_iconst (v := 2) hx hb dX5_pass_96 (by decide) ?_
                  refine lv_idiv hx hb dX5_pass_97 (by decide) ?_
                  refine lv_isub hx hb dX5_pass_98 ?_
                  refine ias_w (k := k70) hx hb hK hP hD hS (RSl.app _ (RSl.app _ (RSl.app _ (RSl.app _ (RSl.left _ (RSl.row (by omega))))))) (by omega) (by decide) dX5_pass_99 (fun H locs hP hD hS => ?_)
                  have hP : va_P D vwCl ([(qm, .inr (5, [.ref ho, .ref ro, .ref go, .int (nI n), .int sf])), (ho, .inl (cy 3, 10, .inr (.inr (.inr (.inr (pf 10 ah)))))), (ro, .inl (cy 3, R, .inr (.inr (.inr (.inr (pf R ar)))))), (go, .inl (cy 3, G, .inr (.inr (.inr (.inr (pf G ag)))))), (on, .inl (cy 3, 10, .inr (.inr (.inr (.inr (pf 10 un))))))] ++ (rws cy 10 5 ah sh ++ (rws cy R 2 ar sr ++ (rws cy G 6 ag sg ++ (rws cy 10 5 un (up2 th_70 k10 k70 ((th_70 k10 k70) - ((sh k10 k70) / 2))) ++ Y))))) H := hP
                  have hD : va_D A ([(qm, .inr (5, [.ref ho, .ref ro, .ref go, .int (nI n), .int sf])), (ho, .inl (cy 3, 10, .inr (.inr (.inr (.inr (pf 10 ah)))))), (ro, .inl (cy 3, R, .inr (.inr (.inr (.inr (pf R ar)))))), (go, .inl (cy 3, G, .inr (.inr (.inr (.inr (pf G ag)))))), (on, .inl (cy 3, 10, .inr (.inr (.inr (.inr (pf 10 un))))))] ++ (rws cy 10 5 ah sh ++ (rws cy R 2 ar sr ++ (rws cy G 6 ag sg ++ (rws cy 10 5 un (up2 th_70 k10 k70 ((th_70 k10 k70) - ((sh k10 k70) / 2))) ++ Y))))) := hD
                  refine lv_aload_n hx hb dX5_pass_100 rfl (lv_at hl 3 rfl) ?_
                  refine lv_iload_n hx hb dX5_pass_101 rfl (lv_at hl 1 rfl) ?_
                  have hto := (to_S2 hlt10 c77).2
                  refine lv_iv (y := (nI (tn (T_X5_pass_50 sr R k10)))) (to_S2 hlt10 c77).1 ?_
                  refine ald_p (n := 10) (k := tn (T_X5_pass_50 sr R k10)) hx hb hK hP 4 rfl (by omega) (by decide) dX5_pass_102 ?_
                  refine lv_iload hx hb dX5_pass_103 (lv_at hl 0 rfl) ?_
                  refine lv_dup2_11 hx hb dX5_pass_105 rfl rfl ?_
                  refine ial_w (k := k70) hx hb hK hP (RSl.app _ (RSl.app _ (RSl.app _ (RSl.app _ (RSl.left _ (RSl.row (by omega))))))) (by omega) (by decide) dX5_pass_106 ?_
                  refine lv_iv (y := ((up2 th_70 k10 k70 ((th_70 k10 k70) - ((sh k10 k70) / 2))) (tn (T_X5_pass_50 sr R k10)) k70)) rfl ?_
                  refine lv_aload_n hx hb dX5_pass_107 rfl (lv_at hl 4 rfl) ?_
                  refine va_get (D := D) (ci := 5) (v := .ref ho) (C := RX5) (T := TX5) (N := 5) hx hb hts hin5 hown hK hP 0 rfl rfl 0 (by decide) (hts (.fieldLink RX5 9 "FireflyInnLaw$Sim" "hedge" "[[I") (List.mem_of_getElem? (i := 1) rfl)) (fun _ h9 => h9) rfl dX5_pass_108 ?_
                  refine lv_iload_n hx hb dX5_pass_111 rfl (lv_at hl 2 rfl) ?_
                  refine ald_p (n := 10) (k := k10) hx hb hK hP 1 rfl (by omega) (by decide) dX5_pass_112 ?_
                  refine lv_iload hx hb dX5_pass_113 (lv_at hl 0 rfl) ?_
                  refine ial_w (k := k70) hx hb hK hP (RSl.app _ (RSl.left _ (RSl.row (by omega)))) (by omega) (by decide) dX5_pass_115 ?_
                  refine lv_iv (y := (sh k10 k70)) rfl ?_
                  refine lv_iconst (v := 2) hx hb dX5_pass_116 (by decide) ?_
                  refine lv_idiv hx hb dX5_pass_117 (by decide) ?_
                  refine lv_iadd hx hb dX5_pass_118 ?_
                  refine ias_w (k := k70) hx hb hK hP hD hS (RSl.app _ (RSl.app _ (RSl.app _ (RSl.app _ (RSl.left _ (RSl.row (by omega))))))) (by omega) (by decide) dX5_pass_119 (fun H locs hP hD hS => ?_)
                  have hP : va_P D vwCl ([(qm, .inr (5, [.ref ho, .ref ro, .ref go, .int (nI n), .int sf])), (ho, .inl (cy 3, 10, .inr (.inr (.inr (.inr (pf 10 ah)))))), (ro, .inl (cy 3, R, .inr (.inr (.inr (.inr (pf R ar)))))), (go, .inl (cy 3, G, .inr (.inr (.inr (.inr (pf G ag)))))), (on, .inl (cy 3, 10, .inr (.inr (.inr (.inr (pf 10 un))))))] ++ (rws cy 10 5 ah sh ++ (rws cy R 2 ar sr ++ (rws cy G 6 ag sg ++ (rws cy 10 5 un (up2 (up2 th_70 k10 k70 ((th_70 k10 k70) - ((sh k10 k70) / 2))) (tn (T_X5_pass_50 sr R k10)) k70 (((up2 th_70 k10 k70 ((th_70 k10 k70) - ((sh k10 k70) / 2))) (tn (T_X5_pass_50 sr R k10)) k70) + ((sh k10 k70) / 2))) ++ Y))))) H := hP
                  have hD : va_D A ([(qm, .inr (5, [.ref ho, .ref ro, .ref go, .int (nI n), .int sf])), (ho, .inl (cy 3, 10, .inr (.inr (.inr (.inr (pf 10 ah)))))), (ro, .inl (cy 3, R, .inr (.inr (.inr (.inr (pf R ar)))))), (go, .inl (cy 3, G, .inr (.inr (.inr (.inr (pf G ag)))))), (on, .inl (cy 3, 10, .inr (.inr (.inr (.inr (pf 10 un))))))] ++ (rws cy 10 5 ah sh ++ (rws cy R 2 ar sr ++ (rws cy G 6 ag sg ++ (rws cy 10 5 un (up2 (up2 th_70 k10 k70 ((th_70 k10 k70) - ((sh k10 k70) / 2))) (tn (T_X5_pass_50 sr R k10)) k70 (((up2 th_70 k10 k70 ((th_70 k10 k70) - ((sh k10 k70) / 2))) (tn (T_X5_pass_50 sr R k10)) k70) + ((sh k10 k70) / 2))) ++ Y))))) := hD
                  refine lv_iinc (v := (nI (k70 + 1))) (lv' := [(4, .int (nI (k70 + 1))), (3, .int (T_X5_pass_50 sr R k10)), (2, .int (nI k10)), (1, .ref on), (0, .ref qm)]) hx hb dX5_pass_120 hl (k := 0) rfl (nI_1 k70) (by decide) rfl (fun ls hl => ?_)
                  refine lv_goto (tgt := 70) hx hb dX5_pass_123 (by decide) ?_
                  exact ih70 (k70 + 1) (up2 (up2 th_70 k10 k70 ((th_70 k10 k70) - ((sh k10 k70) / 2))) (tn (T_X5_pass_50 sr R k10)) k70 (((up2 th_70 k10 k70 ((th_70 k10 k70) - ((sh k10 k70) / 2))) (tn (T_X5_pass_50 sr R k10)) k70) + ((sh k10 k70) / 2))) _ _ _ (by omega) ((by rw [L_X5_pass_70, if_neg c77] : L_X5_pass_70 sh sr R k10 (n70 + 1) k70 th_70 = L_X5_pass_70 sh sr R k10 n70 (k70 + 1) (up2 (up2 th_70 k10 k70 ((th_70 k10 k70) - ((sh k10 k70) / 2))) (tn (T_X5_pass_50 sr R k10)) k70 (((up2 th_70 k10 k70 ((th_70 k10 k70) - ((sh k10 k70) / 2))) (tn (T_X5_pass_50 sr R k10)) k70) + ((sh k10 k70) / 2)))).symm.trans hE70) hP hD hS (lv_sub hl [0, 1, 2, 3, 4] rfl)
            exact lp70 5 0 th_10 _ _ _ (by omega) hfin70 hP hD hS (lv_sub hl [0, 1, 2, 3, 4] rfl)
          intro H locs ls hP hD hS hl
          subst hfin70
          refine lv_iinc (v := (nI (k10 + 1))) (lv' := [(2, .int (nI (k10 + 1))), (3, .int (T_X5_pass_50 sr R k10)), (1, .ref on), (0, .ref qm)]) hx hb dX5_pass_126 hl (k := 1) rfl (nI_1 k10) (by decide) rfl (fun ls hl => ?_)
          refine lv_goto (tgt := 10) hx hb dX5_pass_129 (by decide) ?_
          exact ih10 (k10 + 1) (I_X5_pass_70 sh sr R k10 th_10) _ _ _ (by omega) (it_step (f := (fun (k : Nat) (v : Nat → Nat → Int32) => S_X5_pass_10 sh sr R k v)) (v := th_10) (show S_X5_pass_10 sh sr R k10 th_10 = (I_X5_pass_70 sh sr R k10 th_10) from by rw [S_X5_pass_10, if_neg c21]) hE10) hP hD hS (lv_sub hl [0, 2, 3] rfl)
        · refine lv_goto (tgt := 126) hx hb dX5_pass_24 (by decide) ?_
          refine lv_iinc (v := (nI (k10 + 1))) (lv' := [(2, .int (nI (k10 + 1))), (1, .ref on), (0, .ref qm)]) hx hb dX5_pass_126 hl (k := 0) rfl (nI_1 k10) (by decide) rfl (fun ls hl => ?_)
          refine lv_goto (tgt := 10) hx hb dX5_pass_129 (by decide) ?_
          exact ih10 (k10 + 1) th_10 _ _ _ (by omega) (it_step (f := (fun (k : Nat) (v : Nat → Nat → Int32) => S_X5_pass_10 sh sr R k v)) (v := th_10) (show S_X5_pass_10 sh sr R k10 th_10 = th_10 from by rw [S_X5_pass_10, if_pos c21]) hE10) hP hD hS (lv_sub hl [0, 1, 2] rfl)
    exact lp10 10 0 sh _ _ _ (by omega) hfin10 hP hD hS (lv_sub hl [0, 1, 2] rfl)
  intro H locs ls hP hD hS hl
  subst hfin10
  refine lv_aload_n hx hb dX5_pass_132 rfl (lv_at hl 1 rfl) ?_
  refine lv_astore_n (lv' := [(2, .ref on), (1, .ref on), (0, .ref qm)]) hx hb dX5_pass_133 rfl hl (by decide) rfl (fun ls hl => ?_)
  refine lv_aload_n hx hb dX5_pass_134 rfl (lv_at hl 0 rfl) ?_
  refine va_alen (v := 10) hx hb hK hP 4 3 rfl rfl rfl dX5_pass_135 ?_
  refine lv_istore_n (lv' := [(3, .int 10), (2, .ref on), (1, .ref on), (0, .ref qm)]) hx hb dX5_pass_136 rfl hl (by decide) rfl (fun ls hl => ?_)
  refine lv_iconst (v := 0) hx hb dX5_pass_137 (by decide) ?_
  refine lv_istore (lv' := [(4, .int 0), (3, .int 10), (2, .ref on), (1, .ref on), (0, .ref qm)]) hx hb dX5_pass_138 hl (by decide) rfl (fun ls hl => ?_)
  obtain ⟨fin140, hfin140⟩ : ∃ z, (I_X5_pass_140 sh sr R) = z := ⟨_, rfl⟩
  suffices kk140 : ∀ (H : Heap) (locs : List Loc) (ls : Array Slot), va_P D vwCl ([(qm, .inr (5, [.ref ho, .ref ro, .ref go, .int (nI n), .int sf])), (ho, .inl (cy 3, 10, .inr (.inr (.inr (.inr (pf 10 ah)))))), (ro, .inl (cy 3, R, .inr (.inr (.inr (.inr (pf R ar)))))), (go, .inl (cy 3, G, .inr (.inr (.inr (.inr (pf G ag)))))), (on, .inl (cy 3, 10, .inr (.inr (.inr (.inr (pf 10 un))))))] ++ (rws cy 10 5 ah sh ++ (rws cy R 2 ar sr ++ (rws cy G 6 ag sg ++ (rws cy 10 5 un fin140 ++ Y))))) H → va_D A ([(qm, .inr (5, [.ref ho, .ref ro, .ref go, .int (nI n), .int sf])), (ho, .inl (cy 3, 10, .inr (.inr (.inr (.inr (pf 10 ah)))))), (ro, .inl (cy 3, R, .inr (.inr (.inr (.inr (pf R ar)))))), (go, .inl (cy 3, G, .inr (.inr (.inr (.inr (pf G ag)))))), (on, .inl (cy 3, 10, .inr (.inr (.inr (.inr (pf 10 un))))))] ++ (rws cy 10 5 ah sh ++ (rws cy R 2 ar sr ++ (rws cy G 6 ag sg ++ (rws cy 10 5 un fin140 ++ Y))))) → va_S A s.heap H locs → lv_has ls 12 [(4, .int (nI 10)), (3, .int 10), (2, .ref on), (1, .ref on), (0, .ref qm)] → W p l e (RM 2 12 68 62) s m args below meth c H locs (0 + 11) (0 + 60) Q (F0 m 190 ls []) by
    have lp140 : ∀ (n140 k140 : Nat) (th_140 : Nat → Nat → Int32) (H : Heap) (locs : List Loc) (ls : Array Slot), k140 + n140 = 10 → it (fun (k : Nat) (v : Nat → Nat → Int32) => S_X5_pass_140 k v) n140 k140 th_140 = fin140 → va_P D vwCl ([(qm, .inr (5, [.ref ho, .ref ro, .ref go, .int (nI n), .int sf])), (ho, .inl (cy 3, 10, .inr (.inr (.inr (.inr (pf 10 ah)))))), (ro, .inl (cy 3, R, .inr (.inr (.inr (.inr (pf R ar)))))), (go, .inl (cy 3, G, .inr (.inr (.inr (.inr (pf G ag)))))), (on, .inl (cy 3, 10, .inr (.inr (.inr (.inr (pf 10 un))))))] ++ (rws cy 10 5 ah sh ++ (rws cy R 2 ar sr ++ (rws cy G 6 ag sg ++ (rws cy 10 5 un th_140 ++ Y))))) H → va_D A ([(qm, .inr (5, [.ref ho, .ref ro, .ref go, .int (nI n), .int sf])), (ho, .inl (cy 3, 10, .inr (.inr (.inr (.inr (pf 10 ah)))))), (ro, .inl (cy 3, R, .inr (.inr (.inr (.inr (pf R ar)))))), (go, .inl (cy 3, G, .inr (.inr (.inr (.inr (pf G ag)))))), (on, .inl (cy 3, 10, .inr (.inr (.inr (.inr (pf 10 un))))))] ++ (rws cy 10 5 ah sh ++ (rws cy R 2 ar sr ++ (rws cy G 6 ag sg ++ (rws cy 10 5 un th_140 ++ Y))))) → va_S A s.heap H locs → lv_has ls 12 [(4, .int (nI k140)), (3, .int 10), (2, .ref on), (1, .ref on), (0, .ref qm)] → W p l e (RM 2 12 68 62) s m args below meth c H locs (0 + 11) (0 + 60) Q (F0 m 140 ls []) := by
      intro n140
      induction n140 with
      | zero =>
        intro k140 th_140 H locs ls hkn140 hE140 hP hD hS hl
        have hk140 : 10 = k140 := by omega
        subst hk140
        have hE140 : th_140 = fin140 := hE140
        subst hE140
        refine lv_iload hx hb dX5_pass_140 (lv_at hl 0 rfl) ?_
        refine lv_iload_n hx hb dX5_pass_142 rfl (lv_at hl 1 rfl) ?_
        refine lv_icmp_ge (tgt := 190) hx hb dX5_pass_143 (by decide) (fun c143 => ?_) (fun c143 => ?_)
        rotate_left
        · exact absurd (nI_le (a := 10) (b := 10) (Nat.le_refl _) (by decide)) c143
        exact kk140 _ _ _ hP hD hS (lv_sub hl [0, 1, 2, 3, 4] rfl)
      | succ n140 ih140 =>
        intro k140 th_140 H locs ls hkn140 hE140 hP hD hS hl
        have hlt140 : k140 < 10 := by omega
        refine lv_iload hx hb dX5_pass_140 (lv_at hl 0 rfl) ?_
        refine lv_iload_n hx hb dX5_pass_142 rfl (lv_at hl 1 rfl) ?_
        refine lv_icmp_ge (tgt := 190) hx hb dX5_pass_143 (by decide) (fun c143 => ?_) (fun c143 => ?_)
        · exact absurd c143 (nI_ge (a := k140) (b := 10) hlt140 (by decide))
        refine lv_aload_n hx hb dX5_pass_146 rfl (lv_at hl 2 rfl) ?_
        refine lv_iload hx hb dX5_pass_147 (lv_at hl 0 rfl) ?_
        refine ald_p (n := 10) (k := k140) hx hb hK hP 4 rfl (by omega) (by decide) dX5_pass_149 ?_
        refine lv_astore (lv' := [(5, .ref (un k140)), (4, .int (nI k140)), (3, .int 10), (2, .ref on), (1, .ref on), (0, .ref qm)]) hx hb dX5_pass_150 hl (by decide) rfl (fun ls hl => ?_)
        refine lv_iconst (v := 0) hx hb dX5_pass_152 (by decide) ?_
        refine lv_istore (lv' := [(6, .int 0), (5, .ref (un k140)), (4, .int (nI k140)), (3, .int 10), (2, .ref on), (1, .ref on), (0, .ref qm)]) hx hb dX5_pass_153 hl (by decide) rfl (fun ls hl => ?_)
        obtain ⟨fin155, hfin155⟩ : ∃ z, (I_X5_pass_155 k140 th_140) = z := ⟨_, rfl⟩
        suffices kk155 : ∀ (H : Heap) (locs : List Loc) (ls : Array Slot), va_P D vwCl ([(qm, .inr (5, [.ref ho, .ref ro, .ref go, .int (nI n), .int sf])), (ho, .inl (cy 3, 10, .inr (.inr (.inr (.inr (pf 10 ah)))))), (ro, .inl (cy 3, R, .inr (.inr (.inr (.inr (pf R ar)))))), (go, .inl (cy 3, G, .inr (.inr (.inr (.inr (pf G ag)))))), (on, .inl (cy 3, 10, .inr (.inr (.inr (.inr (pf 10 un))))))] ++ (rws cy 10 5 ah sh ++ (rws cy R 2 ar sr ++ (rws cy G 6 ag sg ++ (rws cy 10 5 un fin155 ++ Y))))) H → va_D A ([(qm, .inr (5, [.ref ho, .ref ro, .ref go, .int (nI n), .int sf])), (ho, .inl (cy 3, 10, .inr (.inr (.inr (.inr (pf 10 ah)))))), (ro, .inl (cy 3, R, .inr (.inr (.inr (.inr (pf R ar)))))), (go, .inl (cy 3, G, .inr (.inr (.inr (.inr (pf G ag)))))), (on, .inl (cy 3, 10, .inr (.inr (.inr (.inr (pf 10 un))))))] ++ (rws cy 10 5 ah sh ++ (rws cy R 2 ar sr ++ (rws cy G 6 ag sg ++ (rws cy 10 5 un fin155 ++ Y))))) → va_S A s.heap H locs → lv_has ls 12 [(6, .int (nI 5)), (5, .ref (un k140)), (4, .int (nI k140)), (3, .int 10), (2, .ref on), (1, .ref on), (0, .ref qm)] → W p l e (RM 2 12 68 62) s m args below meth c H locs (0 + 11) (0 + 60) Q (F0 m 184 ls []) by
          have lp155 : ∀ (n155 k155 : Nat) (th_155 : Nat → Nat → Int32) (H : Heap) (locs : List Loc) (ls : Array Slot), k155 + n155 = 5 → it (fun (k : Nat) (v : Nat → Nat → Int32) => S_X5_pass_155 k140 k v) n155 k155 th_155 = fin155 → va_P D vwCl ([(qm, .inr (5, [.ref ho, .ref ro, .ref go, .int (nI n), .int sf])), (ho, .inl (cy 3, 10, .inr (.inr (.inr (.inr (pf 10 ah)))))), (ro, .inl (cy 3, R, .inr (.inr (.inr (.inr (pf R ar)))))), (go, .inl (cy 3, G, .inr (.inr (.inr (.inr (pf G ag)))))), (on, .inl (cy 3, 10, .inr (.inr (.inr (.inr (pf 10 un))))))] ++ (rws cy 10 5 ah sh ++ (rws cy R 2 ar sr ++ (rws cy G 6 ag sg ++ (rws cy 10 5 un th_155 ++ Y))))) H → va_D A ([(qm, .inr (5, [.ref ho, .ref ro, .ref go, .int (nI n), .int sf])), (ho, .inl (cy 3, 10, .inr (.inr (.inr (.inr (pf 10 ah)))))), (ro, .inl (cy 3, R, .inr (.inr (.inr (.inr (pf R ar)))))), (go, .inl (cy 3, G, .inr (.inr (.inr (.inr (pf G ag)))))), (on, .inl (cy 3, 10, .inr (.inr (.inr (.inr (pf 10 un))))))] ++ (rws cy 10 5 ah sh ++ (rws cy R 2 ar sr ++ (rws cy G 6 ag sg ++ (rws cy 10 5 un th_155 ++ Y))))) → va_S A s.heap H locs → lv_has ls 12 [(6, .int (nI k155)), (5, .ref (un k140)), (4, .int (nI k140)), (3, .int 10), (2, .ref on), (1, .ref on), (0, .ref qm)] → W p l e (RM 2 12 68 62) s m args below meth c H locs (0 + 11) (0 + 60) Q (F0 m 155 ls []) := by
            intro n155
            induction n155 with
            | zero =>
              intro k155 th_155 H locs ls hkn155 hE155 hP hD hS hl
              have hk155 : 5 = k155 := by omega
              subst hk155
              have hE155 : th_155 = fin155 := hE155
              subst hE155
              refine lv_iload hx hb dX5_pass_155 (lv_at hl 0 rfl) ?_
              refine lv_iconst (v := 5) hx hb dX5_pass_157 (by decide) ?_
              refine lv_icmp_ge (tgt := 184) hx hb dX5_pass_158 (by decide) (fun c158 => ?_) (fun c158 => ?_)
              rotate_left
              · exact absurd (nI_le (a := 5) (b := 5) (Nat.le_refl _) (by decide)) c158
              exact kk155 _ _ _ hP hD hS (lv_sub hl [0, 1, 2, 3, 4, 5, 6] rfl)
            | succ n155 ih155 =>
              intro k155 th_155 H locs ls hkn155 hE155 hP hD hS hl
              have hlt155 : k155 < 5 := by omega
              refine lv_iload hx hb dX5_pass_155 (lv_at hl 0 rfl) ?_
              refine lv_iconst (v := 5) hx hb dX5_pass_157 (by decide) ?_
              refine lv_icmp_ge (tgt := 184) hx hb dX5_pass_158 (by decide) (fun c158 => ?_) (fun c158 => ?_)
              · exact absurd c158 (nI_ge (a := k155) (b := 5) hlt155 (by decide))
              refine lv_aload hx hb dX5_pass_161 (lv_at hl 1 rfl) ?_
              refine lv_iload hx hb dX5_pass_163 (lv_at hl 0 rfl) ?_
              refine ial_w (k := k155) hx hb hK hP (RSl.app _ (RSl.app _ (RSl.app _ (RSl.app _ (RSl.left _ (RSl.row (by omega))))))) (by omega) (by decide) dX5_pass_165 ?_
              refine lv_iv (y := (th_155 k140 k155)) rfl ?_
              refine lv_bipush (v := 40) hx hb dX5_pass_166 (by decide) ?_
              refine lv_icmp_le (tgt := 178) hx hb dX5_pass_168 (by decide) (fun c168 => ?_) (fun c168 => ?_)
              · refine lv_iinc (v := (nI (k155 + 1))) (lv' := [(6, .int (nI (k155 + 1))), (5, .ref (un k140)), (4, .int (nI k140)), (3, .int 10), (2, .ref on), (1, .ref on), (0, .ref qm)]) hx hb dX5_pass_178 hl (k := 0) rfl (nI_1 k155) (by decide) rfl (fun ls hl => ?_)
                refine lv_goto (tgt := 155) hx hb dX5_pass_181 (by decide) ?_
                exact ih155 (k155 + 1) th_155 _ _ _ (by omega) (it_step (f := (fun (k : Nat) (v : Nat → Nat → Int32) => S_X5_pass_155 k140 k v)) (v := th_155) (show S_X5_pass_155 k140 k155 th_155 = th_155 from by rw [S_X5_pass_155, if_pos c168]) hE155) hP hD hS (lv_sub hl [0, 1, 2, 3, 4, 5, 6] rfl)
              · refine lv_aload hx hb dX5_pass_171 (lv_at hl 1 rfl) ?_
                refine lv_iload hx hb dX5_pass_173 (lv_at hl 0 rfl) ?_
                refine lv_bipush (v := 40) hx hb dX5_pass_175 (by decide) ?_
                refine ias_w (k := k155) hx hb hK hP hD hS (RSl.app _ (RSl.app _ (RSl.app _ (RSl.app _ (RSl.left _ (RSl.row (by omega))))))) (by omega) (by decide) dX5_pass_177 (fun H locs hP hD hS => ?_)
                have hP : va_P D vwCl ([(qm, .inr (5, [.ref ho, .ref ro, .ref go, .int (nI n), .int sf])), (ho, .inl (cy 3, 10, .inr (.inr (.inr (.inr (pf 10 ah)))))), (ro, .inl (cy 3, R, .inr (.inr (.inr (.inr (pf R ar)))))), (go, .inl (cy 3, G, .inr (.inr (.inr (.inr (pf G ag)))))), (on, .inl (cy 3, 10, .inr (.inr (.inr (.inr (pf 10 un))))))] ++ (rws cy 10 5 ah sh ++ (rws cy R 2 ar sr ++ (rws cy G 6 ag sg ++ (rws cy 10 5 un (up2 th_155 k140 k155 40) ++ Y))))) H := hP
                have hD : va_D A ([(qm, .inr (5, [.ref ho, .ref ro, .ref go, .int (nI n), .int sf])), (ho, .inl (cy 3, 10, .inr (.inr (.inr (.inr (pf 10 ah)))))), (ro, .inl (cy 3, R, .inr (.inr (.inr (.inr (pf R ar)))))), (go, .inl (cy 3, G, .inr (.inr (.inr (.inr (pf G ag)))))), (on, .inl (cy 3, 10, .inr (.inr (.inr (.inr (pf 10 un))))))] ++ (rws cy 10 5 ah sh ++ (rws cy R 2 ar sr ++ (rws cy G 6 ag sg ++ (rws cy 10 5 un (up2 th_155 k140 k155 40) ++ Y))))) := hD
                refine lv_iinc (v := (nI (k155 + 1))) (lv' := [(6, .int (nI (k155 + 1))), (5, .ref (un k140)), (4, .int (nI k140)), (3, .int 10), (2, .ref on), (1, .ref on), (0, .ref qm)]) hx hb dX5_pass_178 hl (k := 0) rfl (nI_1 k155) (by decide) rfl (fun ls hl => ?_)
                refine lv_goto (tgt := 155) hx hb dX5_pass_181 (by decide) ?_
                exact ih155 (k155 + 1) (up2 th_155 k140 k155 40) _ _ _ (by omega) (it_step (f := (fun (k : Nat) (v : Nat → Nat → Int32) => S_X5_pass_155 k140 k v)) (v := th_155) (show S_X5_pass_155 k140 k155 th_155 = (up2 th_155 k140 k155 40) from by rw [S_X5_pass_155, if_neg c168]) hE155) hP hD hS (lv_sub hl [0, 1, 2, 3, 4, 5, 6] rfl)
          exact lp155 5 0 th_140 _ _ _ (by omega) hfin155 hP hD hS (lv_sub hl [0, 1, 2, 3, 4, 5, 6] rfl)
        intro H locs ls hP hD hS hl
        subst hfin155
        refine lv_iinc (v := (nI (k140 + 1))) (lv' := [(4, .int (nI (k140 + 1))), (6, .int (nI 5)), (5, .ref (un k140)), (3, .int 10), (2, .ref on), (1, .ref on), (0, .ref qm)]) hx hb dX5_pass_184 hl (k := 2) rfl (nI_1 k140) (by decide) rfl (fun ls hl => ?_)
        refine lv_goto (tgt := 140) hx hb dX5_pass_187 (by decide) ?_
        exact ih140 (k140 + 1) (I_X5_pass_155 k140 th_140) _ _ _ (by omega) (it_step (f := (fun (k : Nat) (v : Nat → Nat → Int32) => S_X5_pass_140 k v)) (v := th_140) (show S_X5_pass_140 k140 th_140 = (I_X5_pass_155 k140 th_140) from by rw [S_X5_pass_140]) hE140) hP hD hS (lv_sub hl [0, 3, 4, 5, 6] rfl)
    exact lp140 10 0 (I_X5_pass_10 sh sr R) _ _ _ (by omega) hfin140 hP hD hS (lv_sub hl [0, 1, 2, 3, 4] rfl)
  intro H locs ls hP hD hS hl
  subst hfin140
  refine lv_aload_n hx hb dX5_pass_190 rfl (lv_at hl 4 rfl) ?_
  refine lv_aload_n hx hb dX5_pass_191 rfl (lv_at hl 3 rfl) ?_
  refine va_put (D := D) (ci := 5) (v := .ref on) (ty := (.array (.array .int))) (C := RX5) (T := TX5) (N := 5) hx hb hts hin5 tyX5 tyX5_ok nmX5 hown hK hP hD hS 0 rfl rfl 0 (by decide) (hts (.fieldLink RX5 9 "FireflyInnLaw$Sim" "hedge" "[[I") (List.mem_of_getElem? (i := 1) rfl)) (fun _ h9 => h9) rfl (by decide +kernel) rfl rfl (Nat.le_of_ble_eq_true rfl) dX5_pass_192 (fun H locs hP hD hS => ?_)
  have hP : va_P D vwCl ([(qm, .inr (5, [.ref on, .ref ro, .ref go, .int (nI n), .int sf])), (ho, .inl (cy 3, 10, .inr (.inr (.inr (.inr (pf 10 ah)))))), (ro, .inl (cy 3, R, .inr (.inr (.inr (.inr (pf R ar)))))), (go, .inl (cy 3, G, .inr (.inr (.inr (.inr (pf G ag)))))), (on, .inl (cy 3, 10, .inr (.inr (.inr (.inr (pf 10 un))))))] ++ (rws cy 10 5 ah sh ++ (rws cy R 2 ar sr ++ (rws cy G 6 ag sg ++ (rws cy 10 5 un (I_X5_pass_140 sh sr R) ++ Y))))) H := hP
  have hD : va_D A ([(qm, .inr (5, [.ref on, .ref ro, .ref go, .int (nI n), .int sf])), (ho, .inl (cy 3, 10, .inr (.inr (.inr (.inr (pf 10 ah)))))), (ro, .inl (cy 3, R, .inr (.inr (.inr (.inr (pf R ar)))))), (go, .inl (cy 3, G, .inr (.inr (.inr (.inr (pf G ag)))))), (on, .inl (cy 3, 10, .inr (.inr (.inr (.inr (pf 10 un))))))] ++ (rws cy 10 5 ah sh ++ (rws cy R 2 ar sr ++ (rws cy G 6 ag sg ++ (rws cy 10 5 un (I_X5_pass_140 sh sr R) ++ Y))))) := hD
  have hP := va_P.turn (va_P.part (cx := [(qm, .inr (5, [.ref on, .ref ro, .ref go, .int (nI n), .int sf])), (on, .inl (cy 3, 10, .inr (.inr (.inr (.inr (pf 10 un)))))), (ro, .inl (cy 3, R, .inr (.inr (.inr (.inr (pf R ar)))))), (go, .inl (cy 3, G, .inr (.inr (.inr (.inr (pf G ag))))))]) hP [0, 4, 2, 3] rfl)
  have hD := va_D.turn (va_D.part (cx := [(qm, .inr (5, [.ref on, .ref ro, .ref go, .int (nI n), .int sf])), (on, .inl (cy 3, 10, .inr (.inr (.inr (.inr (pf 10 un)))))), (ro, .inl (cy 3, R, .inr (.inr (.inr (.inr (pf R ar)))))), (go, .inl (cy 3, G, .inr (.inr (.inr (.inr (pf G ag))))))]) hD [0, 4, 2, 3] (by decide) rfl)
  refine lv_iconst (v := 0) hx hb dX5_pass_195 (by decide) ?_
  refine lv_istore_n (lv' := [(2, .int 0), (4, .int (nI 10)), (3, .int 10), (1, .ref on), (0, .ref qm)]) hx hb dX5_pass_196 rfl hl (by decide) rfl (fun ls hl => ?_)
  obtain ⟨fin197, hfin197⟩ : ∃ z, (I_X5_pass_197 sh sr sg R G) = z := ⟨_, rfl⟩
  suffices kk197 : ∀ (H : Heap) (locs : List Loc) (ls : Array Slot), va_P D vwCl ([(qm, .inr (5, [.ref on, .ref ro, .ref go, .int (nI n), .int sf])), (on, .inl (cy 3, 10, .inr (.inr (.inr (.inr (pf 10 un)))))), (ro, .inl (cy 3, R, .inr (.inr (.inr (.inr (pf R ar)))))), (go, .inl (cy 3, G, .inr (.inr (.inr (.inr (pf G ag))))))] ++ (rws cy 10 5 un fin197 ++ (rws cy R 2 ar sr ++ (rws cy G 6 ag sg ++ Y)))) H → va_D A ([(qm, .inr (5, [.ref on, .ref ro, .ref go, .int (nI n), .int sf])), (on, .inl (cy 3, 10, .inr (.inr (.inr (.inr (pf 10 un)))))), (ro, .inl (cy 3, R, .inr (.inr (.inr (.inr (pf R ar)))))), (go, .inl (cy 3, G, .inr (.inr (.inr (.inr (pf G ag))))))] ++ (rws cy 10 5 un fin197 ++ (rws cy R 2 ar sr ++ (rws cy G 6 ag sg ++ Y)))) → va_S A s.heap H locs → lv_has ls 12 [(2, .int (nI R)), (1, .ref on), (0, .ref qm)] → W p l e (RM 2 12 68 62) s m args below meth c H locs (0 + 11) (0 + 60) Q (F0 m 297 ls []) by
    have lp197 : ∀ (n197 k197 : Nat) (th_197 : Nat → Nat → Int32) (H : Heap) (locs : List Loc) (ls : Array Slot), k197 + n197 = R → it (fun (k : Nat) (v : Nat → Nat → Int32) => S_X5_pass_197 sr sg G k v) n197 k197 th_197 = fin197 → va_P D vwCl ([(qm, .inr (5, [.ref on, .ref ro, .ref go, .int (nI n), .int sf])), (on, .inl (cy 3, 10, .inr (.inr (.inr (.inr (pf 10 un)))))), (ro, .inl (cy 3, R, .inr (.inr (.inr (.inr (pf R ar)))))), (go, .inl (cy 3, G, .inr (.inr (.inr (.inr (pf G ag))))))] ++ (rws cy 10 5 un th_197 ++ (rws cy R 2 ar sr ++ (rws cy G 6 ag sg ++ Y)))) H → va_D A ([(qm, .inr (5, [.ref on, .ref ro, .ref go, .int (nI n), .int sf])), (on, .inl (cy 3, 10, .inr (.inr (.inr (.inr (pf 10 un)))))), (ro, .inl (cy 3, R, .inr (.inr (.inr (.inr (pf R ar)))))), (go, .inl (cy 3, G, .inr (.inr (.inr (.inr (pf G ag))))))] ++ (rws cy 10 5 un th_197 ++ (rws cy R 2 ar sr ++ (rws cy G 6 ag sg ++ Y)))) → va_S A s.heap H locs → lv_has ls 12 [(2, .int (nI k197)), (1, .ref on), (0, .ref qm)] → W p l e (RM 2 12 68 62) s m args below meth c H locs (0 + 11) (0 + 60) Q (F0 m 197 ls []) := by
      intro n197
      induction n197 with
      | zero =>
        intro k197 th_197 H locs ls hkn197 hE197 hP hD hS hl
        have hk197 : R = k197 := by omega
        subst hk197
        have hE197 : th_197 = fin197 := hE197
        subst hE197
        refine lv_iload_n hx hb dX5_pass_197 rfl (lv_at hl 0 rfl) ?_
        refine lv_aload_n hx hb dX5_pass_198 rfl (lv_at hl 2 rfl) ?_
        refine va_get (D := D) (ci := 5) (v := .ref ro) (C := RX5) (T := TX5) (N := 5) hx hb hts hin5 hown hK hP 0 rfl rfl 1 (by decide) (hts (.fieldLink RX5 16 "FireflyInnLaw$Sim" "rooms" "[[I") (List.mem_of_getElem? (i := 2) rfl)) (fun _ h9 => h9) rfl dX5_pass_199 ?_
        refine va_alen (v := nI R) hx hb hK hP 2 3 rfl rfl rfl dX5_pass_202 ?_
        refine lv_icmp_ge (tgt := 297) hx hb dX5_pass_203 (by decide) (fun c203 => ?_) (fun c203 => ?_)
        rotate_left
        · exact absurd (nI_le (a := R) (b := R) (Nat.le_refl _) (by omega)) c203
        exact kk197 _ _ _ hP hD hS (lv_sub hl [0, 1, 2] rfl)
      | succ n197 ih197 =>
        intro k197 th_197 H locs ls hkn197 hE197 hP hD hS hl
        have hlt197 : k197 < R := by omega
        refine lv_iload_n hx hb dX5_pass_197 rfl (lv_at hl 0 rfl) ?_
        refine lv_aload_n hx hb dX5_pass_198 rfl (lv_at hl 2 rfl) ?_
        refine va_get (D := D) (ci := 5) (v := .ref ro) (C := RX5) (T := TX5) (N := 5) hx hb hts hin5 hown hK hP 0 rfl rfl 1 (by decide) (hts (.fieldLink RX5 16 "FireflyInnLaw$Sim" "rooms" "[[I") (List.mem_of_getElem? (i := 2) rfl)) (fun _ h9 => h9) rfl dX5_pass_199 ?_
        refine va_alen (v := nI R) hx hb hK hP 2 3 rfl rfl rfl dX5_pass_202 ?_
        refine lv_icmp_ge (tgt := 297) hx hb dX5_pass_203 (by decide) (fun c203 => ?_) (fun c203 => ?_)
        · exact absurd c203 (nI_ge (a := k197) (b := R) hlt197 (by omega))
        refine lv_aload_n hx hb dX5_pass_206 rfl (lv_at hl 2 rfl) ?_
        refine lv_iload_n hx hb dX5_pass_207 rfl (lv_at hl 0 rfl) ?_
        refine cl_iP (S := Unit) (X := [(qm, .inr (5, [.ref on, .ref ro, .ref go, .int (nI n), .int sf])), (on, .inl (cy 3, 10, .inr (.inr (.inr (.inr (pf 10 un)))))), (ro, .inl (cy 3, R, .inr (.inr (.inr (.inr (pf R ar)))))), (go, .inl (cy 3, G, .inr (.inr (.inr (.inr (pf G ag))))))]) (wr := []) (rx := fun _ => [(qm, .inr (5, [.ref on, .ref ro, .ref go, .int (nI n), .int sf])), (on, .inl (cy 3, 10, .inr (.inr (.inr (.inr (pf 10 un)))))), (ro, .inl (cy 3, R, .inr (.inr (.inr (.inr (pf R ar)))))), (go, .inl (cy 3, G, .inr (.inr (.inr (.inr (pf G ag))))))]) (p1 := fun _ => (rws cy 10 5 un th_197 ++ (rws cy R 2 ar sr ++ (rws cy G 6 ag sg ++ Y)))) (rn_VP (As := [.int (nI k197)]) (rest := []) (ci := 5) (q0 := 0) ⟨hx, hb, hml, hown, hts⟩ (k_X5_whispers l D cy _ qm on ro go un ar ag Y (nI n) sf th_197 sr sg R G (nI k197) (by omega) (by omega)) (cwV 1 hts gX5_pass_X5_whispers rfl rfl rfl (by decide +kernel) ⟨Nat.le_of_ble_eq_true rfl, Nat.le_of_ble_eq_true rfl⟩) hN hK hP hD [0, 1, 2, 3] rfl (by decide) rfl rfl rfl rfl hl.1 rfl (Nat.le_of_ble_eq_true rfl) dX5_pass_208 ⟨(show (0 + 11) + 0 ≤ 12 by omega), (show (0 + 60) + 0 ≤ 68 by omega)⟩) hP hD hS hA [0, 1, 2, 3] [] rfl rfl (by decide) (by decide) (fun _ => rfl) (fun r9 u9 H locs h9 hP hD hS => ?_)
        have h9 : r9 = (F_X5_whispers sg G (nI k197)) := h9
        subst h9
        have hP : va_P D vwCl ([(qm, .inr (5, [.ref on, .ref ro, .ref go, .int (nI n), .int sf])), (on, .inl (cy 3, 10, .inr (.inr (.inr (.inr (pf 10 un)))))), (ro, .inl (cy 3, R, .inr (.inr (.inr (.inr (pf R ar)))))), (go, .inl (cy 3, G, .inr (.inr (.inr (.inr (pf G ag))))))] ++ (rws cy 10 5 un th_197 ++ (rws cy R 2 ar sr ++ (rws cy G 6 ag sg ++ Y)))) H := va_P.part hP [0, 1, 2, 3] rfl
        have hD : va_D A ([(qm, .inr (5, [.ref on, .ref ro, .ref go, .int (nI n), .int sf])), (on, .inl (cy 3, 10, .inr (.inr (.inr (.inr (pf 10 un)))))), (ro, .inl (cy 3, R, .inr (.inr (.inr (.inr (pf R ar)))))), (go, .inl (cy 3, G, .inr (.inr (.inr (.inr (pf G ag))))))] ++ (rws cy 10 5 un th_197 ++ (rws cy R 2 ar sr ++ (rws cy G 6 ag sg ++ Y)))) := va_D.part hD [0, 1, 2, 3] (by decide) rfl
        refine lv_bipush (v := 10) hx hb dX5_pass_211 (by decide) ?_
        refine lv_icmp_ge (tgt := 219) hx hb dX5_pass_213 (by decide) (fun c213 => ?_) (fun c213 => ?_)
        · refine lv_aload_n hx hb dX5_pass_219 rfl (lv_at hl 2 rfl) ?_
          refine va_get (D := D) (ci := 5) (v := .ref on) (C := RX5) (T := TX5) (N := 5) hx hb hts hin5 hown hK hP 0 rfl rfl 0 (by decide) (hts (.fieldLink RX5 9 "FireflyInnLaw$Sim" "hedge" "[[I") (List.mem_of_getElem? (i := 1) rfl)) (fun _ h9 => h9) rfl dX5_pass_220 ?_
          refine lv_aload_n hx hb dX5_pass_223 rfl (lv_at hl 2 rfl) ?_
          refine va_get (D := D) (ci := 5) (v := .ref ro) (C := RX5) (T := TX5) (N := 5) hx hb hts hin5 hown hK hP 0 rfl rfl 1 (by decide) (hts (.fieldLink RX5 16 "FireflyInnLaw$Sim" "rooms" "[[I") (List.mem_of_getElem? (i := 2) rfl)) (fun _ h9 => h9) rfl dX5_pass_224 ?_
          refine lv_iload_n hx hb dX5_pass_227 rfl (lv_at hl 0 rfl) ?_
          refine ald_p (n := R) (k := k197) hx hb hK hP 2 rfl (by omega) (by omega) dX5_pass_228 ?_
          refine lv_iconst (v := 0) hx hb dX5_pass_229 (by decide) ?_
          refine ial_w (k := 0) hx hb hK hP (RSl.app _ (RSl.app _ (RSl.left _ (RSl.row (by omega))))) (by omega) (by decide) dX5_pass_230 ?_
          refine lv_iv (y := (sr k197 0)) rfl ?_
          have hw230 := (hSI.win hlt197).2
          refine lv_iv (y := (nI (tn (sr k197 0)))) (hSI.win hlt197).1 ?_
          refine ald_p (n := 10) (k := tn (sr k197 0)) hx hb hK hP 1 rfl (by omega) (by decide) dX5_pass_231 ?_
          refine lv_astore_n (lv' := [(3, .ref (un (tn (sr k197 0)))), (2, .int (nI k197)), (1, .ref on), (0, .ref qm)]) hx hb dX5_pass_232 rfl hl (by decide) rfl (fun ls hl => ?_)
          refine lv_iconst (v := 4) hx hb dX5_pass_233 (by decide) ?_
          refine lv_istore (lv' := [(4, .int 4), (3, .ref (un (tn (sr k197 0)))), (2, .int (nI k197)), (1, .ref on), (0, .ref qm)]) hx hb dX5_pass_234 hl (by decide) rfl (fun ls hl => ?_)
          obtain ⟨fin236, hfin236⟩ : ∃ z, (I_X5_pass_236 sr k197 th_197) = z := ⟨_, rfl⟩
          suffices kk236 : ∀ (H : Heap) (locs : List Loc) (ls : Array Slot), va_P D vwCl ([(qm, .inr (5, [.ref on, .ref ro, .ref go, .int (nI n), .int sf])), (on, .inl (cy 3, 10, .inr (.inr (.inr (.inr (pf 10 un)))))), (ro, .inl (cy 3, R, .inr (.inr (.inr (.inr (pf R ar)))))), (go, .inl (cy 3, G, .inr (.inr (.inr (.inr (pf G ag))))))] ++ (rws cy 10 5 un fin236 ++ (rws cy R 2 ar sr ++ (rws cy G 6 ag sg ++ Y)))) H → va_D A ([(qm, .inr (5, [.ref on, .ref ro, .ref go, .int (nI n), .int sf])), (on, .inl (cy 3, 10, .inr (.inr (.inr (.inr (pf 10 un)))))), (ro, .inl (cy 3, R, .inr (.inr (.inr (.inr (pf R ar)))))), (go, .inl (cy 3, G, .inr (.inr (.inr (.inr (pf G ag))))))] ++ (rws cy 10 5 un fin236 ++ (rws cy R 2 ar sr ++ (rws cy G 6 ag sg ++ Y)))) → va_S A s.heap H locs → lv_has ls 12 [(4, .int (nI 0)), (3, .ref (un (tn (sr k197 0)))), (2, .int (nI k197)), (1, .ref on), (0, .ref qm)] → W p l e (RM 2 12 68 62) s m args below meth c H locs ((0 + 11) + 0) ((0 + 60) + 0) Q (F0 m 291 ls []) by
            have lp236 : ∀ (n236 : Nat) (th_236 : Nat → Nat → Int32) (H : Heap) (locs : List Loc) (ls : Array Slot), n236 ≤ 4 → itd (fun (k : Nat) (v : Nat → Nat → Int32) => S_X5_pass_236 sr k197 k v) n236 th_236 = fin236 → va_P D vwCl ([(qm, .inr (5, [.ref on, .ref ro, .ref go, .int (nI n), .int sf])), (on, .inl (cy 3, 10, .inr (.inr (.inr (.inr (pf 10 un)))))), (ro, .inl (cy 3, R, .inr (.inr (.inr (.inr (pf R ar)))))), (go, .inl (cy 3, G, .inr (.inr (.inr (.inr (pf G ag))))))] ++ (rws cy 10 5 un th_236 ++ (rws cy R 2 ar sr ++ (rws cy G 6 ag sg ++ Y)))) H → va_D A ([(qm, .inr (5, [.ref on, .ref ro, .ref go, .int (nI n), .int sf])), (on, .inl (cy 3, 10, .inr (.inr (.inr (.inr (pf 10 un)))))), (ro, .inl (cy 3, R, .inr (.inr (.inr (.inr (pf R ar)))))), (go, .inl (cy 3, G, .inr (.inr (.inr (.inr (pf G ag))))))] ++ (rws cy 10 5 un th_236 ++ (rws cy R 2 ar sr ++ (rws cy G 6 ag sg ++ Y)))) → va_S A s.heap H locs → lv_has ls 12 [(4, .int (nI n236)), (3, .ref (un (tn (sr k197 0)))), (2, .int (nI k197)), (1, .ref on), (0, .ref qm)] → W p l e (RM 2 12 68 62) s m args below meth c H locs ((0 + 11) + 0) ((0 + 60) + 0) Q (F0 m 236 ls []) := by
              intro n236
              induction n236 with
              | zero =>
                intro th_236 H locs ls hkn236 hE236 hP hD hS hl
                have hE236 : th_236 = fin236 := hE236
                subst hE236
                have hl : lv_has ls 12 [(4, .int (nI 0)), (3, .ref (un (tn (sr k197 0)))), (2, .int (nI k197)), (1, .ref on), (0, .ref qm)] := hl
                refine lv_iload hx hb dX5_pass_236 (lv_at hl 0 rfl) ?_
                refine lv_if_le (tgt := 291) hx hb dX5_pass_238 (by decide) (fun c238 => ?_) (fun c238 => ?_)
                rotate_left
                · exact absurd (by decide) c238
                exact kk236 _ _ _ hP hD hS (lv_sub hl [0, 1, 2, 3, 4] rfl)
              | succ n236 ih236 =>
                intro th_236 H locs ls hkn236 hE236 hP hD hS hl
                have hl : lv_has ls 12 [(4, .int (nI (n236 + 1))), (3, .ref (un (tn (sr k197 0)))), (2, .int (nI k197)), (1, .ref on), (0, .ref qm)] := hl
                refine lv_iload hx hb dX5_pass_236 (lv_at hl 0 rfl) ?_
                refine lv_if_le (tgt := 291) hx hb dX5_pass_238 (by decide) (fun c238 => ?_) (fun c238 => ?_)
                · exact absurd c238 (nI_ge (a := 0) (b := n236 + 1) (by omega) (by omega))
                refine lv_aload_n hx hb dX5_pass_241 rfl (lv_at hl 1 rfl) ?_
                refine lv_iload hx hb dX5_pass_242 (lv_at hl 0 rfl) ?_
                refine ial_w (k := n236 + 1) hx hb hK hP (RSl.app _ (RSl.left _ (RSl.row (by omega)))) (by omega) (by decide) dX5_pass_244 ?_
                refine lv_iv (y := (th_236 (tn (sr k197 0)) (n236 + 1))) rfl ?_
                refine lv_aload_n hx hb dX5_pass_245 rfl (lv_at hl 1 rfl) ?_
                refine lv_iload hx hb dX5_pass_246 (lv_at hl 0 rfl) ?_
                refine lv_iconst (v := 1) hx hb dX5_pass_248 (by decide) ?_
                refine lv_isub hx hb dX5_pass_249 ?_
                refine lv_iv (y := (nI n236)) (nI_pred _) ?_
                refine ial_w (k := n236) hx hb hK hP (RSl.app _ (RSl.left _ (RSl.row (by omega)))) (by omega) (by decide) dX5_pass_250 ?_
                refine lv_iv (y := (th_236 (tn (sr k197 0)) n236)) rfl ?_
                refine lv_iadd hx hb dX5_pass_251 ?_
                refine lv_istore (lv' := [(5, .int ((th_236 (tn (sr k197 0)) (n236 + 1)) + (th_236 (tn (sr k197 0)) n236))), (4, .int (nI (n236 + 1))), (3, .ref (un (tn (sr k197 0)))), (2, .int (nI k197)), (1, .ref on), (0, .ref qm)]) hx hb dX5_pass_252 hl (by decide) rfl (fun ls hl => ?_)
                refine lv_aload_n hx hb dX5_pass_254 rfl (lv_at hl 2 rfl) ?_
                refine lv_iload hx hb dX5_pass_255 (lv_at hl 1 rfl) ?_
                refine lv_iload hx hb dX5_pass_257 (lv_at hl 0 rfl) ?_
                refine lv_bipush (v := 40) hx hb dX5_pass_259 (by decide) ?_
                suffices kj261 : ∀ (z : Int32) (H : Heap) (locs : List Loc), z = (T_X5_pass_261 sr k197 n236 th_236) → va_P D vwCl ([(qm, .inr (5, [.ref on, .ref ro, .ref go, .int (nI n), .int sf])), (on, .inl (cy 3, 10, .inr (.inr (.inr (.inr (pf 10 un)))))), (ro, .inl (cy 3, R, .inr (.inr (.inr (.inr (pf R ar)))))), (go, .inl (cy 3, G, .inr (.inr (.inr (.inr (pf G ag))))))] ++ (rws cy 10 5 un th_236 ++ (rws cy R 2 ar sr ++ (rws cy G 6 ag sg ++ Y)))) H → va_D A ([(qm, .inr (5, [.ref on, .ref ro, .ref go, .int (nI n), .int sf])), (on, .inl (cy 3, 10, .inr (.inr (.inr (.inr (pf 10 un)))))), (ro, .inl (cy 3, R, .inr (.inr (.inr (.inr (pf R ar)))))), (go, .inl (cy 3, G, .inr (.inr (.inr (.inr (pf G ag))))))] ++ (rws cy 10 5 un th_236 ++ (rws cy R 2 ar sr ++ (rws cy G 6 ag sg ++ Y)))) → va_S A s.heap H locs → W p l e (RM 2 12 68 62) s m args below meth c H locs ((0 + 11) + 0) ((0 + 60) + 0) Q (F0 m 271 ls (.int z :: [.int (nI (n236 + 1)), .ref (un (tn (sr k197 0)))])) by
                  refine lv_icmp_le (tgt := 269) hx hb dX5_pass_261 (by decide) (fun c261 => ?_) (fun c261 => ?_)
                  · refine lv_iload hx hb dX5_pass_269 (lv_at hl 0 rfl) ?_
                    exact kj261 _ _ _ (show ((th_236 (tn (sr k197 0)) (n236 + 1)) + (th_236 (tn (sr k197 0)) n236)) = _ from (if_pos c261).symm) hP hD hS
                  · refine lv_bipush (v := 40) hx hb dX5_pass_264 (by decide) ?_
                    refine lv_goto (tgt := 271) hx hb dX5_pass_266 (by decide) ?_
                    exact kj261 _ _ _ (show 40 = _ from (if_neg c261).symm) hP hD hS
                intro z H locs hz hP hD hS
                subst hz
                refine ias_w (k := n236 + 1) hx hb hK hP hD hS (RSl.app _ (RSl.left _ (RSl.row (by omega)))) (by omega) (by decide) dX5_pass_271 (fun H locs hP hD hS => ?_)
                have hP : va_P D vwCl ([(qm, .inr (5, [.ref on, .ref ro, .ref go, .int (nI n), .int sf])), (on, .inl (cy 3, 10, .inr (.inr (.inr (.inr (pf 10 un)))))), (ro, .inl (cy 3, R, .inr (.inr (.inr (.inr (pf R ar)))))), (go, .inl (cy 3, G, .inr (.inr (.inr (.inr (pf G ag))))))] ++ (rws cy 10 5 un (up2 th_236 (tn (sr k197 0)) (n236 + 1) (T_X5_pass_261 sr k197 n236 th_236)) ++ (rws cy R 2 ar sr ++ (rws cy G 6 ag sg ++ Y)))) H := hP
                have hD : va_D A ([(qm, .inr (5, [.ref on, .ref ro, .ref go, .int (nI n), .int sf])), (on, .inl (cy 3, 10, .inr (.inr (.inr (.inr (pf 10 un)))))), (ro, .inl (cy 3, R, .inr (.inr (.inr (.inr (pf R ar)))))), (go, .inl (cy 3, G, .inr (.inr (.inr (.inr (pf G ag))))))] ++ (rws cy 10 5 un (up2 th_236 (tn (sr k197 0)) (n236 + 1) (T_X5_pass_261 sr k197 n236 th_236)) ++ (rws cy R 2 ar sr ++ (rws cy G 6 ag sg ++ Y)))) := hD
                refine lv_aload_n hx hb dX5_pass_272 rfl (lv_at hl 2 rfl) ?_
                refine lv_iload hx hb dX5_pass_273 (lv_at hl 1 rfl) ?_
                refine lv_iconst (v := 1) hx hb dX5_pass_275 (by decide) ?_
                refine lv_isub hx hb dX5_pass_276 ?_
                refine lv_iv (y := (nI n236)) (nI_pred _) ?_
                refine lv_iload hx hb dX5_pass_277 (lv_at hl 0 rfl) ?_
                refine lv_aload_n hx hb dX5_pass_279 rfl (lv_at hl 2 rfl) ?_
                refine lv_iload hx hb dX5_pass_280 (lv_at hl 1 rfl) ?_
                refine ial_w (k := n236 + 1) hx hb hK hP (RSl.app _ (RSl.left _ (RSl.row (by omega)))) (by omega) (by decide) dX5_pass_282 ?_
                refine lv_iv (y := ((up2 th_236 (tn (sr k197 0)) (n236 + 1) (T_X5_pass_261 sr k197 n236 th_236)) (tn (sr k197 0)) (n236 + 1))) rfl ?_
                refine lv_isub hx hb dX5_pass_283 ?_
                refine ias_w (k := n236) hx hb hK hP hD hS (RSl.app _ (RSl.left _ (RSl.row (by omega)))) (by omega) (by decide) dX5_pass_284 (fun H locs hP hD hS => ?_)
                have hP : va_P D vwCl ([(qm, .inr (5, [.ref on, .ref ro, .ref go, .int (nI n), .int sf])), (on, .inl (cy 3, 10, .inr (.inr (.inr (.inr (pf 10 un)))))), (ro, .inl (cy 3, R, .inr (.inr (.inr (.inr (pf R ar)))))), (go, .inl (cy 3, G, .inr (.inr (.inr (.inr (pf G ag))))))] ++ (rws cy 10 5 un (up2 (up2 th_236 (tn (sr k197 0)) (n236 + 1) (T_X5_pass_261 sr k197 n236 th_236)) (tn (sr k197 0)) n236 (((th_236 (tn (sr k197 0)) (n236 + 1)) + (th_236 (tn (sr k197 0)) n236)) - ((up2 th_236 (tn (sr k197 0)) (n236 + 1) (T_X5_pass_261 sr k197 n236 th_236)) (tn (sr k197 0)) (n236 + 1)))) ++ (rws cy R 2 ar sr ++ (rws cy G 6 ag sg ++ Y)))) H := hP
                have hD : va_D A ([(qm, .inr (5, [.ref on, .ref ro, .ref go, .int (nI n), .int sf])), (on, .inl (cy 3, 10, .inr (.inr (.inr (.inr (pf 10 un)))))), (ro, .inl (cy 3, R, .inr (.inr (.inr (.inr (pf R ar)))))), (go, .inl (cy 3, G, .inr (.inr (.inr (.inr (pf G ag))))))] ++ (rws cy 10 5 un (up2 (up2 th_236 (tn (sr k197 0)) (n236 + 1) (T_X5_pass_261 sr k197 n236 th_236)) (tn (sr k197 0)) n236 (((th_236 (tn (sr k197 0)) (n236 + 1)) + (th_236 (tn (sr k197 0)) n236)) - ((up2 th_236 (tn (sr k197 0)) (n236 + 1) (T_X5_pass_261 sr k197 n236 th_236)) (tn (sr k197 0)) (n236 + 1)))) ++ (rws cy R 2 ar sr ++ (rws cy G 6 ag sg ++ Y)))) := hD
                refine lv_iinc (v := (nI n236)) (lv' := [(4, .int (nI n236)), (5, .int ((th_236 (tn (sr k197 0)) (n236 + 1)) + (th_236 (tn (sr k197 0)) n236))), (3, .ref (un (tn (sr k197 0)))), (2, .int (nI k197)), (1, .ref on), (0, .ref qm)]) hx hb dX5_pass_285 hl (k := 1) rfl (pk_m1 n236) (by decide) rfl (fun ls hl => ?_)
                refine lv_goto (tgt := 236) hx hb dX5_pass_288 (by decide) ?_
                exact ih236 (up2 (up2 th_236 (tn (sr k197 0)) (n236 + 1) (T_X5_pass_261 sr k197 n236 th_236)) (tn (sr k197 0)) n236 (((th_236 (tn (sr k197 0)) (n236 + 1)) + (th_236 (tn (sr k197 0)) n236)) - ((up2 th_236 (tn (sr k197 0)) (n236 + 1) (T_X5_pass_261 sr k197 n236 th_236)) (tn (sr k197 0)) (n236 + 1)))) _ _ _ (by omega) (itd_step (f := (fun (k : Nat) (v : Nat → Nat → Int32) => S_X5_pass_236 sr k197 k v)) (v := th_236) (show S_X5_pass_236 sr k197 n236 th_236 = (up2 (up2 th_236 (tn (sr k197 0)) (n236 + 1) (T_X5_pass_261 sr k197 n236 th_236)) (tn (sr k197 0)) n236 (((th_236 (tn (sr k197 0)) (n236 + 1)) + (th_236 (tn (sr k197 0)) n236)) - ((up2 th_236 (tn (sr k197 0)) (n236 + 1) (T_X5_pass_261 sr k197 n236 th_236)) (tn (sr k197 0)) (n236 + 1)))) from by rw [S_X5_pass_236]) hE236) hP hD hS (lv_sub hl [0, 2, 3, 4, 5] rfl)
            exact lp236 4 th_197 _ _ _ (by omega) hfin236 hP hD hS (lv_sub hl [0, 1, 2, 3, 4] rfl)
          intro H locs ls hP hD hS hl
          subst hfin236
          refine lv_iinc (v := (nI (k197 + 1))) (lv' := [(2, .int (nI (k197 + 1))), (4, .int (nI 0)), (3, .ref (un (tn (sr k197 0)))), (1, .ref on), (0, .ref qm)]) hx hb dX5_pass_291 hl (k := 2) rfl (nI_1 k197) (by decide) rfl (fun ls hl => ?_)
          refine lv_goto (tgt := 197) hx hb dX5_pass_294 (by decide) ?_
          exact ih197 (k197 + 1) (I_X5_pass_236 sr k197 th_197) _ _ _ (by omega) (it_step (f := (fun (k : Nat) (v : Nat → Nat → Int32) => S_X5_pass_197 sr sg G k v)) (v := th_197) (show S_X5_pass_197 sr sg G k197 th_197 = (I_X5_pass_236 sr k197 th_197) from by rw [S_X5_pass_197, if_pos c213]) hE197) hP hD hS (lv_sub hl [0, 3, 4] rfl)
        · refine lv_goto (tgt := 291) hx hb dX5_pass_216 (by decide) ?_
          refine lv_iinc (v := (nI (k197 + 1))) (lv' := [(2, .int (nI (k197 + 1))), (1, .ref on), (0, .ref qm)]) hx hb dX5_pass_291 hl (k := 0) rfl (nI_1 k197) (by decide) rfl (fun ls hl => ?_)
          refine lv_goto (tgt := 197) hx hb dX5_pass_294 (by decide) ?_
          exact ih197 (k197 + 1) th_197 _ _ _ (by omega) (it_step (f := (fun (k : Nat) (v : Nat → Nat → Int32) => S_X5_pass_197 sr sg G k v)) (v := th_197) (show S_X5_pass_197 sr sg G k197 th_197 = th_197 from by rw [S_X5_pass_197, if_neg c213]) hE197) hP hD hS (lv_sub hl [0, 1, 2] rfl)
    exact lp197 R 0 (I_X5_pass_140 sh sr R) _ _ _ (by omega) hfin197 hP hD hS (lv_sub hl [0, 3, 4] rfl)
  intro H locs ls hP hD hS hl
  subst hfin197
  refine lv_aload_n hx hb dX5_pass_297 rfl (lv_at hl 2 rfl) ?_
  refine va_get (D := D) (ci := 5) (v := .int (nI n)) (C := RX5) (T := TX5) (N := 5) hx hb hts hin5 hown hK hP 0 rfl rfl 3 (by decide) (hts (.fieldLink RX5 31 "FireflyInnLaw$Sim" "night" "I") (List.mem_of_getElem? (i := 3) rfl)) (fun _ h9 => h9) rfl dX5_pass_298 ?_
  refine cl_iQ (S := Unit) (X := [(qm, .inr (5, [.ref on, .ref ro, .ref go, .int (nI n), .int sf])), (on, .inl (cy 3, 10, .inr (.inr (.inr (.inr (pf 10 un)))))), (ro, .inl (cy 3, R, .inr (.inr (.inr (.inr (pf R ar)))))), (go, .inl (cy 3, G, .inr (.inr (.inr (.inr (pf G ag))))))]) (pl := (rws cy 10 5 un (I_X5_pass_197 sh sr sg R G) ++ (rws cy R 2 ar sr ++ (rws cy G 6 ag sg ++ Y)))) (wr := [(qm, .inr (5, [.ref on, .ref ro, .ref go, .int (nI n), .int sf])), (on, .inl (cy 3, 10, .inr (.inr (.inr (.inr (pf 10 un)))))), (ro, .inl (cy 3, R, .inr (.inr (.inr (.inr (pf R ar)))))), (go, .inl (cy 3, G, .inr (.inr (.inr (.inr (pf G ag))))))]) (rn_S (As := [.int (nI n)]) (rest := []) ⟨hx, hb, hml, hown, hts⟩ (k_X5_moon l D cy _ n (by omega)) (va_cwS 1 hts gX5_pass_X5_moon rfl rfl rfl (by decide +kernel) ⟨Nat.le_of_ble_eq_true rfl, Nat.le_of_ble_eq_true rfl⟩) hN hK hP hD [] rfl (by decide) rfl hl.1 rfl (Nat.le_of_ble_eq_true rfl) dX5_pass_301 ⟨(show (0 + 11) + 1 ≤ 12 by omega), (show (0 + 60) + 8 ≤ 68 by omega)⟩) hP hD hS hA [] [0, 1, 2, 3] rfl rfl rfl (by decide) (by decide) (fun r9 u9 H locs h9 hP hD hS => ?_)
  have h9 : r9 = (F_X5_moon n) := h9
  subst h9
  have hP : va_P D vwCl ([(qm, .inr (5, [.ref on, .ref ro, .ref go, .int (nI n), .int sf])), (on, .inl (cy 3, 10, .inr (.inr (.inr (.inr (pf 10 un)))))), (ro, .inl (cy 3, R, .inr (.inr (.inr (.inr (pf R ar)))))), (go, .inl (cy 3, G, .inr (.inr (.inr (.inr (pf G ag))))))] ++ (rws cy 10 5 un (I_X5_pass_197 sh sr sg R G) ++ (rws cy R 2 ar sr ++ (rws cy G 6 ag sg ++ Y)))) H := va_P.part hP [0, 1, 2, 3] rfl
  have hD : va_D A ([(qm, .inr (5, [.ref on, .ref ro, .ref go, .int (nI n), .int sf])), (on, .inl (cy 3, 10, .inr (.inr (.inr (.inr (pf 10 un)))))), (ro, .inl (cy 3, R, .inr (.inr (.inr (.inr (pf R ar)))))), (go, .inl (cy 3, G, .inr (.inr (.inr (.inr (pf G ag))))))] ++ (rws cy 10 5 un (I_X5_pass_197 sh sr sg R G) ++ (rws cy R 2 ar sr ++ (rws cy G 6 ag sg ++ Y)))) := va_D.part hD [0, 1, 2, 3] (by decide) rfl
  refine lv_istore_n (lv' := [(2, .int (F_X5_moon n)), (1, .ref on), (0, .ref qm)]) hx hb dX5_pass_304 rfl hl (by decide) rfl (fun ls hl => ?_)
  refine lv_iconst (v := 0) hx hb dX5_pass_305 (by decide) ?_
  refine lv_istore_n (lv' := [(3, .int 0), (2, .int (F_X5_moon n)), (1, .ref on), (0, .ref qm)]) hx hb dX5_pass_306 rfl hl (by decide) rfl (fun ls hl => ?_)
  refine lv_aload_n hx hb dX5_pass_307 rfl (lv_at hl 3 rfl) ?_
  refine va_get (D := D) (ci := 5) (v := .ref go) (C := RX5) (T := TX5) (N := 5) hx hb hts hin5 hown hK hP 0 rfl rfl 2 (by decide) (hts (.fieldLink RX5 19 "FireflyInnLaw$Sim" "guests" "[[I") (List.mem_of_getElem? (i := 4) rfl)) (fun _ h9 => h9) rfl dX5_pass_308 ?_
  refine lv_astore (lv' := [(4, .ref go), (3, .int 0), (2, .int (F_X5_moon n)), (1, .ref on), (0, .ref qm)]) hx hb dX5_pass_311 hl (by decide) rfl (fun ls hl => ?_)
  refine lv_aload hx hb dX5_pass_313 (lv_at hl 0 rfl) ?_
  refine va_alen (v := nI G) hx hb hK hP 3 3 rfl rfl rfl dX5_pass_315 ?_
  refine lv_istore (lv' := [(5, .int (nI G)), (4, .ref go), (3, .int 0), (2, .int (F_X5_moon n)), (1, .ref on), (0, .ref qm)]) hx hb dX5_pass_316 hl (by decide) rfl (fun ls hl => ?_)
  refine lv_iconst (v := 0) hx hb dX5_pass_318 (by decide) ?_
  refine lv_istore (lv' := [(6, .int 0), (5, .int (nI G)), (4, .ref go), (3, .int 0), (2, .int (F_X5_moon n)), (1, .ref on), (0, .ref qm)]) hx hb dX5_pass_319 hl (by decide) rfl (fun ls hl => ?_)
  obtain ⟨fin321, hfin321⟩ : ∃ z, (I_X5_pass_321 sh sr sg R G n) = z := ⟨_, rfl⟩
  suffices kk321 : ∀ (H : Heap) (locs : List Loc) (ls : Array Slot), va_P D vwCl ([(qm, .inr (5, [.ref on, .ref ro, .ref go, .int (nI n), .int sf])), (on, .inl (cy 3, 10, .inr (.inr (.inr (.inr (pf 10 un)))))), (ro, .inl (cy 3, R, .inr (.inr (.inr (.inr (pf R ar)))))), (go, .inl (cy 3, G, .inr (.inr (.inr (.inr (pf G ag))))))] ++ (rws cy 10 5 un (I_X5_pass_197 sh sr sg R G) ++ (rws cy R 2 ar sr ++ (rws cy G 6 ag fin321.2 ++ Y)))) H → va_D A ([(qm, .inr (5, [.ref on, .ref ro, .ref go, .int (nI n), .int sf])), (on, .inl (cy 3, 10, .inr (.inr (.inr (.inr (pf 10 un)))))), (ro, .inl (cy 3, R, .inr (.inr (.inr (.inr (pf R ar)))))), (go, .inl (cy 3, G, .inr (.inr (.inr (.inr (pf G ag))))))] ++ (rws cy 10 5 un (I_X5_pass_197 sh sr sg R G) ++ (rws cy R 2 ar sr ++ (rws cy G 6 ag fin321.2 ++ Y)))) → va_S A s.heap H locs → lv_has ls 12 [(6, .int (nI G)), (5, .int (nI G)), (4, .ref go), (3, .int fin321.1), (2, .int (F_X5_moon n)), (1, .ref on), (0, .ref qm)] → SI R G sr fin321.2 → W p l e (RM 2 12 68 62) s m args below meth c H locs ((0 + 11) + 1) ((0 + 60) + 8) Q (F0 m 473 ls []) by
    have lp321 : ∀ (n321 k321 : Nat) (v3_321 : Int32) (sg_321 : Nat → Nat → Int32) (H : Heap) (locs : List Loc) (ls : Array Slot), k321 + n321 = G → it (fun (k : Nat) (v : Int32 × (Nat → Nat → Int32)) => S_X5_pass_321 sh sr sg R G n k v.1 v.2) n321 k321 (v3_321, sg_321) = fin321 → va_P D vwCl ([(qm, .inr (5, [.ref on, .ref ro, .ref go, .int (nI n), .int sf])), (on, .inl (cy 3, 10, .inr (.inr (.inr (.inr (pf 10 un)))))), (ro, .inl (cy 3, R, .inr (.inr (.inr (.inr (pf R ar)))))), (go, .inl (cy 3, G, .inr (.inr (.inr (.inr (pf G ag))))))] ++ (rws cy 10 5 un (I_X5_pass_197 sh sr sg R G) ++ (rws cy R 2 ar sr ++ (rws cy G 6 ag sg_321 ++ Y)))) H → va_D A ([(qm, .inr (5, [.ref on, .ref ro, .ref go, .int (nI n), .int sf])), (on, .inl (cy 3, 10, .inr (.inr (.inr (.inr (pf 10 un)))))), (ro, .inl (cy 3, R, .inr (.inr (.inr (.inr (pf R ar)))))), (go, .inl (cy 3, G, .inr (.inr (.inr (.inr (pf G ag))))))] ++ (rws cy 10 5 un (I_X5_pass_197 sh sr sg R G) ++ (rws cy R 2 ar sr ++ (rws cy G 6 ag sg_321 ++ Y)))) → va_S A s.heap H locs → lv_has ls 12 [(6, .int (nI k321)), (5, .int (nI G)), (4, .ref go), (3, .int v3_321), (2, .int (F_X5_moon n)), (1, .ref on), (0, .ref qm)] → SI R G sr sg_321 → W p l e (RM 2 12 68 62) s m args below meth c H locs ((0 + 11) + 1) ((0 + 60) + 8) Q (F0 m 321 ls []) := by
      intro n321
      induction n321 with
      | zero =>
        intro k321 v3_321 sg_321 H locs ls hkn321 hE321 hP hD hS hl hI321
        have hk321 : G = k321 := by omega
        subst hk321
        have hE321 : (v3_321, sg_321) = fin321 := hE321
        subst hE321
        refine lv_iload hx hb dX5_pass_321 (lv_at hl 0 rfl) ?_
        refine lv_iload hx hb dX5_pass_323 (lv_at hl 1 rfl) ?_
        refine lv_icmp_ge (tgt := 473) hx hb dX5_pass_325 (by decide) (fun c325 => ?_) (fun c325 => ?_)
        rotate_left
        · exact absurd (nI_le (a := G) (b := G) (Nat.le_refl _) (by omega)) c325
        exact kk321 _ _ _ hP hD hS (lv_sub hl [0, 1, 2, 3, 4, 5, 6] rfl) hI321
      | succ n321 ih321 =>
        intro k321 v3_321 sg_321 H locs ls hkn321 hE321 hP hD hS hl hI321
        have hlt321 : k321 < G := by omega
        refine lv_iload hx hb dX5_pass_321 (lv_at hl 0 rfl) ?_
        refine lv_iload hx hb dX5_pass_323 (lv_at hl 1 rfl) ?_
        refine lv_icmp_ge (tgt := 473) hx hb dX5_pass_325 (by decide) (fun c325 => ?_) (fun c325 => ?_)
        · exact absurd c325 (nI_ge (a := k321) (b := G) hlt321 (by omega))
        refine lv_aload hx hb dX5_pass_328 (lv_at hl 2 rfl) ?_
        refine lv_iload hx hb dX5_pass_330 (lv_at hl 0 rfl) ?_
        refine ald_p (n := G) (k := k321) hx hb hK hP 3 rfl (by omega) (by omega) dX5_pass_332 ?_
        refine lv_astore (lv' := [(7, .ref (ag k321)), (6, .int (nI k321)), (5, .int (nI G)), (4, .ref go), (3, .int v3_321), (2, .int (F_X5_moon n)), (1, .ref on), (0, .ref qm)]) hx hb dX5_pass_333 hl (by decide) rfl (fun ls hl => ?_)
        refine lv_aload hx hb dX5_pass_335 (lv_at hl 0 rfl) ?_
        refine lv_iconst (v := 5) hx hb dX5_pass_337 (by decide) ?_
        refine ial_w (k := 5) hx hb hK hP (RSl.app _ (RSl.app _ (RSl.app _ (RSl.left _ (RSl.row (by omega)))))) (by omega) (by decide) dX5_pass_338 ?_
        refine lv_iv (y := (sg_321 k321 5)) rfl ?_
        refine lv_iconst (v := 1) hx hb dX5_pass_339 (by decide) ?_
        refine lv_icmp_eq (tgt := 467) hx hb dX5_pass_340 (by decide) (fun c340 => ?_) (fun c340 => ?_)
        · refine lv_iinc (v := (nI (k321 + 1))) (lv' := [(6, .int (nI (k321 + 1))), (7, .ref (ag k321)), (5, .int (nI G)), (4, .ref go), (3, .int v3_321), (2, .int (F_X5_moon n)), (1, .ref on), (0, .ref qm)]) hx hb dX5_pass_467 hl (k := 1) rfl (nI_1 k321) (by decide) rfl (fun ls hl => ?_)
          refine lv_goto (tgt := 321) hx hb dX5_pass_470 (by decide) ?_
          exact ih321 (k321 + 1) v3_321 sg_321 _ _ _ (by omega) (it_step (f := (fun (k : Nat) (v : Int32 × (Nat → Nat → Int32)) => S_X5_pass_321 sh sr sg R G n k v.1 v.2)) (v := (v3_321, sg_321)) (show S_X5_pass_321 sh sr sg R G n k321 v3_321 sg_321 = (v3_321, sg_321) from by rw [S_X5_pass_321, if_pos c340]) hE321) hP hD hS (lv_sub hl [0, 2, 3, 4, 5, 6, 7] rfl) hI321
        · refine lv_aload_n hx hb dX5_pass_343 rfl (lv_at hl 7 rfl) ?_
          refine va_get (D := D) (ci := 5) (v := .ref ro) (C := RX5) (T := TX5) (N := 5) hx hb hts hin5 hown hK hP 0 rfl rfl 1 (by decide) (hts (.fieldLink RX5 16 "FireflyInnLaw$Sim" "rooms" "[[I") (List.mem_of_getElem? (i := 2) rfl)) (fun _ h9 => h9) rfl dX5_pass_344 ?_
          refine lv_aload hx hb dX5_pass_347 (lv_at hl 0 rfl) ?_
          refine lv_iconst (v := 0) hx hb dX5_pass_349 (by decide) ?_
          refine ial_w (k := 0) hx hb hK hP (RSl.app _ (RSl.app _ (RSl.app _ (RSl.left _ (RSl.row (by omega)))))) (by omega) (by decide) dX5_pass_350 ?_
          refine lv_iv (y := (sg_321 k321 0)) rfl ?_
          have hr350 := (hI321.rm hR hlt321).2
          refine lv_iv (y := (nI (tn (sg_321 k321 0)))) (hI321.rm hR hlt321).1 ?_
          refine ald_p (n := R) (k := tn (sg_321 k321 0)) hx hb hK hP 2 rfl (by omega) (by omega) dX5_pass_351 ?_
          refine lv_iconst (v := 1) hx hb dX5_pass_352 (by decide) ?_
          refine ial_w (k := 1) hx hb hK hP (RSl.app _ (RSl.app _ (RSl.left _ (RSl.row (by omega))))) (by omega) (by decide) dX5_pass_353 ?_
          refine lv_iv (y := (sr (tn (sg_321 k321 0)) 1)) rfl ?_
          refine lv_iconst (v := 1) hx hb dX5_pass_354 (by decide) ?_
          refine lv_icmp_eq (tgt := 467) hx hb dX5_pass_355 (by decide) (fun c355 => ?_) (fun c355 => ?_)
          · refine lv_iinc (v := (nI (k321 + 1))) (lv' := [(6, .int (nI (k321 + 1))), (7, .ref (ag k321)), (5, .int (nI G)), (4, .ref go), (3, .int v3_321), (2, .int (F_X5_moon n)), (1, .ref on), (0, .ref qm)]) hx hb dX5_pass_467 hl (k := 1) rfl (nI_1 k321) (by decide) rfl (fun ls hl => ?_)
            refine lv_goto (tgt := 321) hx hb dX5_pass_470 (by decide) ?_
            exact ih321 (k321 + 1) v3_321 sg_321 _ _ _ (by omega) (it_step (f := (fun (k : Nat) (v : Int32 × (Nat → Nat → Int32)) => S_X5_pass_321 sh sr sg R G n k v.1 v.2)) (v := (v3_321, sg_321)) (show S_X5_pass_321 sh sr sg R G n k321 v3_321 sg_321 = (v3_321, sg_321) from by rw [S_X5_pass_321, if_neg c340, if_pos c355]) hE321) hP hD hS (lv_sub hl [0, 2, 3, 4, 5, 6, 7] rfl) hI321
          · refine lv_iload_n hx hb dX5_pass_358 rfl (lv_at hl 5 rfl) ?_
            refine lv_iconst (v := 4) hx hb dX5_pass_359 (by decide) ?_
            refine lv_icmp_ne (tgt := 366) hx hb dX5_pass_360 (by decide) (fun c360 => ?_) (fun c360 => ?_)
            · refine lv_iconst (v := 0) hx hb dX5_pass_366 (by decide) ?_
              refine lv_istore (lv' := [(8, .int 0), (7, .ref (ag k321)), (6, .int (nI k321)), (5, .int (nI G)), (4, .ref go), (3, .int v3_321), (2, .int (F_X5_moon n)), (1, .ref on), (0, .ref qm)]) hx hb dX5_pass_367 hl (by decide) rfl (fun ls hl => ?_)
              refine lv_aload_n hx hb dX5_pass_369 rfl (lv_at hl 8 rfl) ?_
              refine va_get (D := D) (ci := 5) (v := .ref ro) (C := RX5) (T := TX5) (N := 5) hx hb hts hin5 hown hK hP 0 rfl rfl 1 (by decide) (hts (.fieldLink RX5 16 "FireflyInnLaw$Sim" "rooms" "[[I") (List.mem_of_getElem? (i := 2) rfl)) (fun _ h9 => h9) rfl dX5_pass_370 ?_
              refine lv_aload hx hb dX5_pass_373 (lv_at hl 1 rfl) ?_
              refine lv_iconst (v := 0) hx hb dX5_pass_375 (by decide) ?_
              refine ial_w (k := 0) hx hb hK hP (RSl.app _ (RSl.app _ (RSl.app _ (RSl.left _ (RSl.row (by omega)))))) (by omega) (by decide) dX5_pass_376 ?_
              refine lv_iv (y := (sg_321 k321 0)) rfl ?_
              have hr376 := (hI321.rm hR hlt321).2
              refine lv_iv (y := (nI (tn (sg_321 k321 0)))) (hI321.rm hR hlt321).1 ?_
              refine ald_p (n := R) (k := tn (sg_321 k321 0)) hx hb hK hP 2 rfl (by omega) (by omega) dX5_pass_377 ?_
              refine lv_iconst (v := 0) hx hb dX5_pass_378 (by decide) ?_
              refine ial_w (k := 0) hx hb hK hP (RSl.app _ (RSl.app _ (RSl.left _ (RSl.row (by omega))))) (by omega) (by decide) dX5_pass_379 ?_
              refine lv_iv (y := (sr (tn (sg_321 k321 0)) 0)) rfl ?_
              have hw379 := (hI321.win hr376).2
              refine lv_iv (y := (nI (tn (sr (tn (sg_321 k321 0)) 0)))) (hI321.win hr376).1 ?_
              refine lv_istore (lv' := [(9, .int (nI (tn (sr (tn (sg_321 k321 0)) 0)))), (8, .int 0), (7, .ref (ag k321)), (6, .int (nI k321)), (5, .int (nI G)), (4, .ref go), (3, .int v3_321), (2, .int (F_X5_moon n)), (1, .ref on), (0, .ref qm)]) hx hb dX5_pass_380 hl (by decide) rfl (fun ls hl => ?_)
              refine lv_iload hx hb dX5_pass_382 (lv_at hl 0 rfl) ?_
              refine lv_iconst (v := 1) hx hb dX5_pass_384 (by decide) ?_
              refine lv_isub hx hb dX5_pass_385 ?_
              refine lv_iv (y := (cO (tn (sr (tn (sg_321 k321 0)) 0)) 0)) (cO_0 (tn (sr (tn (sg_321 k321 0)) 0))) ?_
              refine lv_istore (lv' := [(10, .int (cO (tn (sr (tn (sg_321 k321 0)) 0)) 0)), (9, .int (nI (tn (sr (tn (sg_321 k321 0)) 0)))), (8, .int 0), (7, .ref (ag k321)), (6, .int (nI k321)), (5, .int (nI G)), (4, .ref go), (3, .int v3_321), (2, .int (F_X5_moon n)), (1, .ref on), (0, .ref qm)]) hx hb dX5_pass_386 hl (by decide) rfl (fun ls hl => ?_)
              obtain ⟨fin388, hfin388⟩ : ∃ z, (I_X5_pass_388 sh sr sg R G k321 sg_321) = z := ⟨_, rfl⟩
              suffices kk388 : ∀ (H : Heap) (locs : List Loc) (ls : Array Slot), va_P D vwCl ([(qm, .inr (5, [.ref on, .ref ro, .ref go, .int (nI n), .int sf])), (on, .inl (cy 3, 10, .inr (.inr (.inr (.inr (pf 10 un)))))), (ro, .inl (cy 3, R, .inr (.inr (.inr (.inr (pf R ar)))))), (go, .inl (cy 3, G, .inr (.inr (.inr (.inr (pf G ag))))))] ++ (rws cy 10 5 un (I_X5_pass_197 sh sr sg R G) ++ (rws cy R 2 ar sr ++ (rws cy G 6 ag sg_321 ++ Y)))) H → va_D A ([(qm, .inr (5, [.ref on, .ref ro, .ref go, .int (nI n), .int sf])), (on, .inl (cy 3, 10, .inr (.inr (.inr (.inr (pf 10 un)))))), (ro, .inl (cy 3, R, .inr (.inr (.inr (.inr (pf R ar)))))), (go, .inl (cy 3, G, .inr (.inr (.inr (.inr (pf G ag))))))] ++ (rws cy 10 5 un (I_X5_pass_197 sh sr sg R G) ++ (rws cy R 2 ar sr ++ (rws cy G 6 ag sg_321 ++ Y)))) → va_S A s.heap H locs → lv_has ls 12 [(9, .int (nI (tn (sr (tn (sg_321 k321 0)) 0)))), (8, .int fin388), (7, .ref (ag k321)), (6, .int (nI k321)), (5, .int (nI G)), (4, .ref go), (3, .int v3_321), (2, .int (F_X5_moon n)), (1, .ref on), (0, .ref qm)] → W p l e (RM 2 12 68 62) s m args below meth c H locs ((0 + 11) + 1) ((0 + 60) + 8) Q (F0 m 445 ls []) by
                have lp388 : ∀ (n388 k388 : Nat) (v8_388 : Int32) (H : Heap) (locs : List Loc) (ls : Array Slot), k388 + n388 = 3 → L_X5_pass_388 sh sr sg R G k321 sg_321 n388 k388 v8_388 = fin388 → va_P D vwCl ([(qm, .inr (5, [.ref on, .ref ro, .ref go, .int (nI n), .int sf])), (on, .inl (cy 3, 10, .inr (.inr (.inr (.inr (pf 10 un)))))), (ro, .inl (cy 3, R, .inr (.inr (.inr (.inr (pf R ar)))))), (go, .inl (cy 3, G, .inr (.inr (.inr (.inr (pf G ag))))))] ++ (rws cy 10 5 un (I_X5_pass_197 sh sr sg R G) ++ (rws cy R 2 ar sr ++ (rws cy G 6 ag sg_321 ++ Y)))) H → va_D A ([(qm, .inr (5, [.ref on, .ref ro, .ref go, .int (nI n), .int sf])), (on, .inl (cy 3, 10, .inr (.inr (.inr (.inr (pf 10 un)))))), (ro, .inl (cy 3, R, .inr (.inr (.inr (.inr (pf R ar)))))), (go, .inl (cy 3, G, .inr (.inr (.inr (.inr (pf G ag))))))] ++ (rws cy 10 5 un (I_X5_pass_197 sh sr sg R G) ++ (rws cy R 2 ar sr ++ (rws cy G 6 ag sg_321 ++ Y)))) → va_S A s.heap H locs → lv_has ls 12 [(10, .int (cO (tn (sr (tn (sg_321 k321 0)) 0)) k388)), (9, .int (nI (tn (sr (tn (sg_321 k321 0)) 0)))), (8, .int v8_388), (7, .ref (ag k321)), (6, .int (nI k321)), (5, .int (nI G)), (4, .ref go), (3, .int v3_321), (2, .int (F_X5_moon n)), (1, .ref on), (0, .ref qm)] → W p l e (RM 2 12 68 62) s m args below meth c H locs ((0 + 11) + 1) ((0 + 60) + 8) Q (F0 m 388 ls []) := by
                  intro n388
                  induction n388 with
                  | zero =>
                    intro k388 v8_388 H locs ls hkn388 hE388 hP hD hS hl
                    have hk388 : 3 = k388 := by omega
                    subst hk388
                    have hE388 : v8_388 = fin388 := hE388
                    subst hE388
                    refine lv_iload hx hb dX5_pass_388 (lv_at hl 0 rfl) ?_
                    refine lv_iload hx hb dX5_pass_390 (lv_at hl 1 rfl) ?_
                    refine lv_iconst (v := 1) hx hb dX5_pass_392 (by decide) ?_
                    refine lv_iadd hx hb dX5_pass_393 ?_
                    refine lv_iv (y := (nI ((tn (sr (tn (sg_321 k321 0)) 0)) + 1))) (nI_add (tn (sr (tn (sg_321 k321 0)) 0)) 1) ?_
                    refine lv_icmp_gt (tgt := 445) hx hb dX5_pass_394 (by decide) (fun c394 => ?_) (fun c394 => ?_)
                    rotate_left
                    · exact absurd (cO_end hw379) c394
                    exact kk388 _ _ _ hP hD hS (lv_sub hl [1, 2, 3, 4, 5, 6, 7, 8, 9, 10] rfl)
                  | succ n388 ih388 =>
                    intro k388 v8_388 H locs ls hkn388 hE388 hP hD hS hl
                    have hlt388 : k388 < 3 := by omega
                    refine lv_iload hx hb dX5_pass_388 (lv_at hl 0 rfl) ?_
                    refine lv_iload hx hb dX5_pass_390 (lv_at hl 1 rfl) ?_
                    refine lv_iconst (v := 1) hx hb dX5_pass_392 (by decide) ?_
                    refine lv_iadd hx hb dX5_pass_393 ?_
                    refine lv_iv (y := (nI ((tn (sr (tn (sg_321 k321 0)) 0)) + 1))) (nI_add (tn (sr (tn (sg_321 k321 0)) 0)) 1) ?_
                    refine lv_icmp_gt (tgt := 445) hx hb dX5_pass_394 (by decide) (fun c394 => ?_) (fun c394 => ?_)
                    · exact absurd c394 (cO_in hw379 hlt388)
                    refine lv_iconst (v := 0) hx hb dX5_pass_397 (by decide) ?_
                    refine lv_istore (lv' := [(11, .int 0), (10, .int (cO (tn (sr (tn (sg_321 k321 0)) 0)) k388)), (9, .int (nI (tn (sr (tn (sg_321 k321 0)) 0)))), (8, .int v8_388), (7, .ref (ag k321)), (6, .int (nI k321)), (5, .int (nI G)), (4, .ref go), (3, .int v3_321), (2, .int (F_X5_moon n)), (1, .ref on), (0, .ref qm)]) hx hb dX5_pass_398 hl (by decide) rfl (fun ls hl => ?_)
                    obtain ⟨fin400, hfin400⟩ : ∃ z, (I_X5_pass_400 sh sr sg R G k321 sg_321 k388 v8_388) = z := ⟨_, rfl⟩
                    suffices kk400 : ∀ (H : Heap) (locs : List Loc) (ls : Array Slot), va_P D vwCl ([(qm, .inr (5, [.ref on, .ref ro, .ref go, .int (nI n), .int sf])), (on, .inl (cy 3, 10, .inr (.inr (.inr (.inr (pf 10 un)))))), (ro, .inl (cy 3, R, .inr (.inr (.inr (.inr (pf R ar)))))), (go, .inl (cy 3, G, .inr (.inr (.inr (.inr (pf G ag))))))] ++ (rws cy 10 5 un (I_X5_pass_197 sh sr sg R G) ++ (rws cy R 2 ar sr ++ (rws cy G 6 ag sg_321 ++ Y)))) H → va_D A ([(qm, .inr (5, [.ref on, .ref ro, .ref go, .int (nI n), .int sf])), (on, .inl (cy 3, 10, .inr (.inr (.inr (.inr (pf 10 un)))))), (ro, .inl (cy 3, R, .inr (.inr (.inr (.inr (pf R ar)))))), (go, .inl (cy 3, G, .inr (.inr (.inr (.inr (pf G ag))))))] ++ (rws cy 10 5 un (I_X5_pass_197 sh sr sg R G) ++ (rws cy R 2 ar sr ++ (rws cy G 6 ag sg_321 ++ Y)))) → va_S A s.heap H locs → lv_has ls 12 [(10, .int (cO (tn (sr (tn (sg_321 k321 0)) 0)) k388)), (9, .int (nI (tn (sr (tn (sg_321 k321 0)) 0)))), (8, .int fin400), (7, .ref (ag k321)), (6, .int (nI k321)), (5, .int (nI G)), (4, .ref go), (3, .int v3_321), (2, .int (F_X5_moon n)), (1, .ref on), (0, .ref qm)] → W p l e (RM 2 12 68 62) s m args below meth c H locs ((0 + 11) + 1) ((0 + 60) + 8) Q (F0 m 439 ls []) by
                      have lp400 : ∀ (n400 k400 : Nat) (v8_400 : Int32) (H : Heap) (locs : List Loc) (ls : Array Slot), k400 + n400 = 5 → L_X5_pass_400 sh sr sg R G k321 sg_321 k388 n400 k400 v8_400 = fin400 → va_P D vwCl ([(qm, .inr (5, [.ref on, .ref ro, .ref go, .int (nI n), .int sf])), (on, .inl (cy 3, 10, .inr (.inr (.inr (.inr (pf 10 un)))))), (ro, .inl (cy 3, R, .inr (.inr (.inr (.inr (pf R ar)))))), (go, .inl (cy 3, G, .inr (.inr (.inr (.inr (pf G ag))))))] ++ (rws cy 10 5 un (I_X5_pass_197 sh sr sg R G) ++ (rws cy R 2 ar sr ++ (rws cy G 6 ag sg_321 ++ Y)))) H → va_D A ([(qm, .inr (5, [.ref on, .ref ro, .ref go, .int (nI n), .int sf])), (on, .inl (cy 3, 10, .inr (.inr (.inr (.inr (pf 10 un)))))), (ro, .inl (cy 3, R, .inr (.inr (.inr (.inr (pf R ar)))))), (go, .inl (cy 3, G, .inr (.inr (.inr (.inr (pf G ag))))))] ++ (rws cy 10 5 un (I_X5_pass_197 sh sr sg R G) ++ (rws cy R 2 ar sr ++ (rws cy G 6 ag sg_321 ++ Y)))) → va_S A s.heap H locs → lv_has ls 12 [(11, .int (nI k400)), (10, .int (cO (tn (sr (tn (sg_321 k321 0)) 0)) k388)), (9, .int (nI (tn (sr (tn (sg_321 k321 0)) 0)))), (8, .int v8_400), (7, .ref (ag k321)), (6, .int (nI k321)), (5, .int (nI G)), (4, .ref go), (3, .int v3_321), (2, .int (F_X5_moon n)), (1, .ref on), (0, .ref qm)] → W p l e (RM 2 12 68 62) s m args below meth c H locs ((0 + 11) + 1) ((0 + 60) + 8) Q (F0 m 400 ls []) := by
                        intro n400
                        induction n400 with
                        | zero =>
                          intro k400 v8_400 H locs ls hkn400 hE400 hP hD hS hl
                          have hk400 : 5 = k400 := by omega
                          subst hk400
                          have hE400 : v8_400 = fin400 := hE400
                          subst hE400
                          refine lv_iload hx hb dX5_pass_400 (lv_at hl 0 rfl) ?_
                          refine lv_iconst (v := 5) hx hb dX5_pass_402 (by decide) ?_
                          refine lv_icmp_ge (tgt := 439) hx hb dX5_pass_403 (by decide) (fun c403 => ?_) (fun c403 => ?_)
                          rotate_left
                          · exact absurd (nI_le (a := 5) (b := 5) (Nat.le_refl _) (by decide)) c403
                          exact kk400 _ _ _ hP hD hS (lv_sub hl [1, 2, 3, 4, 5, 6, 7, 8, 9, 10, 11] rfl)
                        | succ n400 ih400 =>
                          intro k400 v8_400 H locs ls hkn400 hE400 hP hD hS hl
                          have hlt400 : k400 < 5 := by omega
                          refine lv_iload hx hb dX5_pass_400 (lv_at hl 0 rfl) ?_
                          refine lv_iconst (v := 5) hx hb dX5_pass_402 (by decide) ?_
                          refine lv_icmp_ge (tgt := 439) hx hb dX5_pass_403 (by decide) (fun c403 => ?_) (fun c403 => ?_)
                          · exact absurd c403 (nI_ge (a := k400) (b := 5) hlt400 (by decide))
                          refine lv_iload hx hb dX5_pass_406 (lv_at hl 1 rfl) ?_
                          refine lv_if_lt (tgt := 439) hx hb dX5_pass_408 (by decide) (fun c408 => ?_) (fun c408 => ?_)
                          · have hq : v8_400 = fin400 := (by rw [L_X5_pass_400, if_pos c408] : L_X5_pass_400 sh sr sg R G k321 sg_321 k388 (n400 + 1) k400 v8_400 = v8_400).symm.trans hE400
                            subst hq
                            exact kk400 _ _ _ hP hD hS (lv_sub hl [1, 2, 3, 4, 5, 6, 7, 8, 9, 10, 11] rfl)
                          · refine lv_iload hx hb dX5_pass_411 (lv_at hl 1 rfl) ?_
                            refine lv_bipush (v := 10) hx hb dX5_pass_413 (by decide) ?_
                            refine lv_icmp_ge (tgt := 439) hx hb dX5_pass_415 (by decide) (fun c415 => ?_) (fun c415 => ?_)
                            · have hq : v8_400 = fin400 := (by rw [L_X5_pass_400, if_neg c408, if_pos c415] : L_X5_pass_400 sh sr sg R G k321 sg_321 k388 (n400 + 1) k400 v8_400 = v8_400).symm.trans hE400
                              subst hq
                              exact kk400 _ _ _ hP hD hS (lv_sub hl [1, 2, 3, 4, 5, 6, 7, 8, 9, 10, 11] rfl)
                            · refine lv_iload hx hb dX5_pass_418 (lv_at hl 3 rfl) ?_
                              refine lv_aload_n hx hb dX5_pass_420 rfl (lv_at hl 11 rfl) ?_
                              refine va_get (D := D) (ci := 5) (v := .ref on) (C := RX5) (T := TX5) (N := 5) hx hb hts hin5 hown hK hP 0 rfl rfl 0 (by decide) (hts (.fieldLink RX5 9 "FireflyInnLaw$Sim" "hedge" "[[I") (List.mem_of_getElem? (i := 1) rfl)) (fun _ h9 => h9) rfl dX5_pass_421 ?_
                              refine lv_iload hx hb dX5_pass_424 (lv_at hl 1 rfl) ?_
                              refine lv_iv (y := (nI (tn (sr (tn (sg_321 k321 0)) 0) + k388 - 1))) (cO_nat hw379 hlt388 (cO_rng hw379 hlt388 c408 c415).1) ?_
                              refine ald_p (n := 10) (k := tn (sr (tn (sg_321 k321 0)) 0) + k388 - 1) hx hb hK hP 1 rfl (cO_rng hw379 hlt388 c408 c415).2 (by decide) dX5_pass_426 ?_
                              refine lv_iload hx hb dX5_pass_427 (lv_at hl 0 rfl) ?_
                              refine ial_w (k := k400) hx hb hK hP (RSl.app _ (RSl.left _ (RSl.row (cO_rng hw379 hlt388 c408 c415).2))) (by omega) (by decide) dX5_pass_429 ?_
                              refine lv_iv (y := ((I_X5_pass_197 sh sr sg R G) (tn (sr (tn (sg_321 k321 0)) 0) + k388 - 1) k400)) rfl ?_
                              refine lv_iadd hx hb dX5_pass_430 ?_
                              refine lv_istore (lv' := [(8, .int (v8_400 + ((I_X5_pass_197 sh sr sg R G) (tn (sr (tn (sg_321 k321 0)) 0) + k388 - 1) k400))), (11, .int (nI k400)), (10, .int (cO (tn (sr (tn (sg_321 k321 0)) 0)) k388)), (9, .int (nI (tn (sr (tn (sg_321 k321 0)) 0)))), (7, .ref (ag k321)), (6, .int (nI k321)), (5, .int (nI G)), (4, .ref go), (3, .int v3_321), (2, .int (F_X5_moon n)), (1, .ref on), (0, .ref qm)]) hx hb dX5_pass_431 hl (by decide) rfl (fun ls hl => ?_)
                              refine lv_iinc (v := (nI (k400 + 1))) (lv' := [(11, .int (nI (k400 + 1))), (8, .int (v8_400 + ((I_X5_pass_197 sh sr sg R G) (tn (sr (tn (sg_321 k321 0)) 0) + k388 - 1) k400))), (10, .int (cO (tn (sr (tn (sg_321 k321 0)) 0)) k388)), (9, .int (nI (tn (sr (tn (sg_321 k321 0)) 0)))), (7, .ref (ag k321)), (6, .int (nI k321)), (5, .int (nI G)), (4, .ref go), (3, .int v3_321), (2, .int (F_X5_moon n)), (1, .ref on), (0, .ref qm)]) hx hb dX5_pass_433 hl (k := 1) rfl (nI_1 k400) (by decide) rfl (fun ls hl => ?_)
                              refine lv_goto (tgt := 400) hx hb dX5_pass_436 (by decide) ?_
                              exact ih400 (k400 + 1) (v8_400 + ((I_X5_pass_197 sh sr sg R G) (tn (sr (tn (sg_321 k321 0)) 0) + k388 - 1) k400)) _ _ _ (by omega) ((by rw [L_X5_pass_400, if_neg c408, if_neg c415] : L_X5_pass_400 sh sr sg R G k321 sg_321 k388 (n400 + 1) k400 v8_400 = L_X5_pass_400 sh sr sg R G k321 sg_321 k388 n400 (k400 + 1) (v8_400 + ((I_X5_pass_197 sh sr sg R G) (tn (sr (tn (sg_321 k321 0)) 0) + k388 - 1) k400))).symm.trans hE400) hP hD hS (lv_sub hl [0, 2, 3, 1, 4, 5, 6, 7, 8, 9, 10, 11] rfl)
                      exact lp400 5 0 v8_388 _ _ _ (by omega) hfin400 hP hD hS (lv_sub hl [0, 1, 2, 3, 4, 5, 6, 7, 8, 9, 10, 11] rfl)
                    intro H locs ls hP hD hS hl
                    subst hfin400
                    refine lv_iinc (v := (cO (tn (sr (tn (sg_321 k321 0)) 0)) (k388 + 1))) (lv' := [(10, .int (cO (tn (sr (tn (sg_321 k321 0)) 0)) (k388 + 1))), (9, .int (nI (tn (sr (tn (sg_321 k321 0)) 0)))), (8, .int (I_X5_pass_400 sh sr sg R G k321 sg_321 k388 v8_388)), (7, .ref (ag k321)), (6, .int (nI k321)), (5, .int (nI G)), (4, .ref go), (3, .int v3_321), (2, .int (F_X5_moon n)), (1, .ref on), (0, .ref qm)]) hx hb dX5_pass_439 hl (k := 0) rfl (cO_1 (tn (sr (tn (sg_321 k321 0)) 0)) k388) (by decide) rfl (fun ls hl => ?_)
                    refine lv_goto (tgt := 388) hx hb dX5_pass_442 (by decide) ?_
                    exact ih388 (k388 + 1) (I_X5_pass_400 sh sr sg R G k321 sg_321 k388 v8_388) _ _ _ (by omega) ((rfl : L_X5_pass_388 sh sr sg R G k321 sg_321 (n388 + 1) k388 v8_388 = L_X5_pass_388 sh sr sg R G k321 sg_321 n388 (k388 + 1) (I_X5_pass_400 sh sr sg R G k321 sg_321 k388 v8_388)).symm.trans hE388) hP hD hS (lv_sub hl [0, 1, 2, 3, 4, 5, 6, 7, 8, 9, 10] rfl)
                exact lp388 3 0 0 _ _ _ (by omega) hfin388 hP hD hS (lv_sub hl [0, 1, 2, 3, 4, 5, 6, 7, 8, 9, 10] rfl)
              intro H locs ls hP hD hS hl
              subst hfin388
              refine lv_aload hx hb dX5_pass_445 (lv_at hl 2 rfl) ?_
              refine lv_iconst (v := 4) hx hb dX5_pass_447 (by decide) ?_
              refine lv_dup2_11 hx hb dX5_pass_448 rfl rfl ?_
              refine ial_w (k := 4) hx hb hK hP (RSl.app _ (RSl.app _ (RSl.app _ (RSl.left _ (RSl.row (by omega)))))) (by omega) (by decide) dX5_pass_449 ?_
              refine lv_iv (y := (sg_321 k321 4)) rfl ?_
              refine lv_iload hx hb dX5_pass_450 (lv_at hl 1 rfl) ?_
              refine lv_iload_n hx hb dX5_pass_452 rfl (lv_at hl 7 rfl) ?_
              refine lv_iconst (v := 1) hx hb dX5_pass_453 (by decide) ?_
              refine lv_iadd hx hb dX5_pass_454 ?_
              refine lv_idiv hx hb dX5_pass_455 (simmoon_ne n) ?_
              refine lv_iadd hx hb dX5_pass_456 ?_
              refine ias_w (k := 4) hx hb hK hP hD hS (RSl.app _ (RSl.app _ (RSl.app _ (RSl.left _ (RSl.row (by omega)))))) (by omega) (by decide) dX5_pass_457 (fun H locs hP hD hS => ?_)
              have hP : va_P D vwCl ([(qm, .inr (5, [.ref on, .ref ro, .ref go, .int (nI n), .int sf])), (on, .inl (cy 3, 10, .inr (.inr (.inr (.inr (pf 10 un)))))), (ro, .inl (cy 3, R, .inr (.inr (.inr (.inr (pf R ar)))))), (go, .inl (cy 3, G, .inr (.inr (.inr (.inr (pf G ag))))))] ++ (rws cy 10 5 un (I_X5_pass_197 sh sr sg R G) ++ (rws cy R 2 ar sr ++ (rws cy G 6 ag (up2 sg_321 k321 4 ((sg_321 k321 4) + ((I_X5_pass_388 sh sr sg R G k321 sg_321) / ((F_X5_moon n) + 1)))) ++ Y)))) H := hP
              have hD : va_D A ([(qm, .inr (5, [.ref on, .ref ro, .ref go, .int (nI n), .int sf])), (on, .inl (cy 3, 10, .inr (.inr (.inr (.inr (pf 10 un)))))), (ro, .inl (cy 3, R, .inr (.inr (.inr (.inr (pf R ar)))))), (go, .inl (cy 3, G, .inr (.inr (.inr (.inr (pf G ag))))))] ++ (rws cy 10 5 un (I_X5_pass_197 sh sr sg R G) ++ (rws cy R 2 ar sr ++ (rws cy G 6 ag (up2 sg_321 k321 4 ((sg_321 k321 4) + ((I_X5_pass_388 sh sr sg R G k321 sg_321) / ((F_X5_moon n) + 1)))) ++ Y)))) := hD
              refine lv_iload_n hx hb dX5_pass_458 rfl (lv_at hl 6 rfl) ?_
              refine lv_iload hx hb dX5_pass_459 (lv_at hl 1 rfl) ?_
              refine lv_iload_n hx hb dX5_pass_461 rfl (lv_at hl 7 rfl) ?_
              refine lv_iconst (v := 1) hx hb dX5_pass_462 (by decide) ?_
              refine lv_iadd hx hb dX5_pass_463 ?_
              refine lv_idiv hx hb dX5_pass_464 (simmoon_ne n) ?_
              refine lv_iadd hx hb dX5_pass_465 ?_
              refine lv_istore_n (lv' := [(3, .int (v3_321 + ((I_X5_pass_388 sh sr sg R G k321 sg_321) / ((F_X5_moon n) + 1)))), (9, .int (nI (tn (sr (tn (sg_321 k321 0)) 0)))), (8, .int (I_X5_pass_388 sh sr sg R G k321 sg_321)), (7, .ref (ag k321)), (6, .int (nI k321)), (5, .int (nI G)), (4, .ref go), (2, .int (F_X5_moon n)), (1, .ref on), (0, .ref qm)]) hx hb dX5_pass_466 rfl hl (by decide) rfl (fun ls hl => ?_)
              refine lv_iinc (v := (nI (k321 + 1))) (lv' := [(6, .int (nI (k321 + 1))), (3, .int (v3_321 + ((I_X5_pass_388 sh sr sg R G k321 sg_321) / ((F_X5_moon n) + 1)))), (9, .int (nI (tn (sr (tn (sg_321 k321 0)) 0)))), (8, .int (I_X5_pass_388 sh sr sg R G k321 sg_321)), (7, .ref (ag k321)), (5, .int (nI G)), (4, .ref go), (2, .int (F_X5_moon n)), (1, .ref on), (0, .ref qm)]) hx hb dX5_pass_467 hl (k := 4) rfl (nI_1 k321) (by decide) rfl (fun ls hl => ?_)
              refine lv_goto (tgt := 321) hx hb dX5_pass_470 (by decide) ?_
              exact ih321 (k321 + 1) (v3_321 + ((I_X5_pass_388 sh sr sg R G k321 sg_321) / ((F_X5_moon n) + 1))) (up2 sg_321 k321 4 ((sg_321 k321 4) + ((I_X5_pass_388 sh sr sg R G k321 sg_321) / ((F_X5_moon n) + 1)))) _ _ _ (by omega) (it_step (f := (fun (k : Nat) (v : Int32 × (Nat → Nat → Int32)) => S_X5_pass_321 sh sr sg R G n k v.1 v.2)) (v := (v3_321, sg_321)) (show S_X5_pass_321 sh sr sg R G n k321 v3_321 sg_321 = ((v3_321 + ((I_X5_pass_388 sh sr sg R G k321 sg_321) / ((F_X5_moon n) + 1))), (up2 sg_321 k321 4 ((sg_321 k321 4) + ((I_X5_pass_388 sh sr sg R G k321 sg_321) / ((F_X5_moon n) + 1))))) from by rw [S_X5_pass_321, if_neg c340, if_neg c355, if_neg c360]) hE321) hP hD hS (lv_sub hl [0, 5, 6, 1, 7, 8, 9] rfl) (SI.up hI321 _ (by decide))
            · refine lv_goto (tgt := 467) hx hb dX5_pass_363 (by decide) ?_
              refine lv_iinc (v := (nI (k321 + 1))) (lv' := [(6, .int (nI (k321 + 1))), (7, .ref (ag k321)), (5, .int (nI G)), (4, .ref go), (3, .int v3_321), (2, .int (F_X5_moon n)), (1, .ref on), (0, .ref qm)]) hx hb dX5_pass_467 hl (k := 1) rfl (nI_1 k321) (by decide) rfl (fun ls hl => ?_)
              refine lv_goto (tgt := 321) hx hb dX5_pass_470 (by decide) ?_
              exact ih321 (k321 + 1) v3_321 sg_321 _ _ _ (by omega) (it_step (f := (fun (k : Nat) (v : Int32 × (Nat → Nat → Int32)) => S_X5_pass_321 sh sr sg R G n k v.1 v.2)) (v := (v3_321, sg_321)) (show S_X5_pass_321 sh sr sg R G n k321 v3_321 sg_321 = (v3_321, sg_321) from by rw [S_X5_pass_321, if_neg c340, if_neg c355, if_pos c360]) hE321) hP hD hS (lv_sub hl [0, 2, 3, 4, 5, 6, 7] rfl) hI321
    exact lp321 G 0 0 sg _ _ _ (by omega) hfin321 hP hD hS (lv_sub hl [0, 1, 2, 3, 4, 5, 6] rfl) hSI
  intro H locs ls hP hD hS hl hI321
  subst hfin321
  refine lv_aload_n hx hb dX5_pass_473 rfl (lv_at hl 6 rfl) ?_
  refine va_get (D := D) (ci := 5) (v := .ref go) (C := RX5) (T := TX5) (N := 5) hx hb hts hin5 hown hK hP 0 rfl rfl 2 (by decide) (hts (.fieldLink RX5 19 "FireflyInnLaw$Sim" "guests" "[[I") (List.mem_of_getElem? (i := 4) rfl)) (fun _ h9 => h9) rfl dX5_pass_474 ?_
  refine lv_astore (lv' := [(4, .ref go), (6, .int (nI G)), (5, .int (nI G)), (3, .int ((I_X5_pass_321 sh sr sg R G n).1)), (2, .int (F_X5_moon n)), (1, .ref on), (0, .ref qm)]) hx hb dX5_pass_477 hl (by decide) rfl (fun ls hl => ?_)
  refine lv_aload hx hb dX5_pass_479 (lv_at hl 0 rfl) ?_
  refine va_alen (v := nI G) hx hb hK hP 3 3 rfl rfl rfl dX5_pass_481 ?_
  refine lv_istore (lv' := [(5, .int (nI G)), (4, .ref go), (6, .int (nI G)), (3, .int ((I_X5_pass_321 sh sr sg R G n).1)), (2, .int (F_X5_moon n)), (1, .ref on), (0, .ref qm)]) hx hb dX5_pass_482 hl (by decide) rfl (fun ls hl => ?_)
  refine lv_iconst (v := 0) hx hb dX5_pass_484 (by decide) ?_
  refine lv_istore (lv' := [(6, .int 0), (5, .int (nI G)), (4, .ref go), (3, .int ((I_X5_pass_321 sh sr sg R G n).1)), (2, .int (F_X5_moon n)), (1, .ref on), (0, .ref qm)]) hx hb dX5_pass_485 hl (by decide) rfl (fun ls hl => ?_)
  obtain ⟨fin487, hfin487⟩ : ∃ z, (I_X5_pass_487 sh sr sg R G n) = z := ⟨_, rfl⟩
  suffices kk487 : ∀ (H : Heap) (locs : List Loc) (ls : Array Slot), va_P D vwCl ([(qm, .inr (5, [.ref on, .ref ro, .ref go, .int (nI n), .int sf])), (on, .inl (cy 3, 10, .inr (.inr (.inr (.inr (pf 10 un)))))), (ro, .inl (cy 3, R, .inr (.inr (.inr (.inr (pf R ar)))))), (go, .inl (cy 3, G, .inr (.inr (.inr (.inr (pf G ag))))))] ++ (rws cy 10 5 un fin487.2 ++ (rws cy R 2 ar sr ++ (rws cy G 6 ag fin487.1 ++ Y)))) H → va_D A ([(qm, .inr (5, [.ref on, .ref ro, .ref go, .int (nI n), .int sf])), (on, .inl (cy 3, 10, .inr (.inr (.inr (.inr (pf 10 un)))))), (ro, .inl (cy 3, R, .inr (.inr (.inr (.inr (pf R ar)))))), (go, .inl (cy 3, G, .inr (.inr (.inr (.inr (pf G ag))))))] ++ (rws cy 10 5 un fin487.2 ++ (rws cy R 2 ar sr ++ (rws cy G 6 ag fin487.1 ++ Y)))) → va_S A s.heap H locs → lv_has ls 12 [(6, .int (nI G)), (5, .int (nI G)), (4, .ref go), (3, .int ((I_X5_pass_321 sh sr sg R G n).1)), (2, .int (F_X5_moon n)), (1, .ref on), (0, .ref qm)] → SI R G sr fin487.1 → W p l e (RM 2 12 68 62) s m args below meth c H locs ((0 + 11) + 1) ((0 + 60) + 8) Q (F0 m 601 ls []) by
    have lp487 : ∀ (n487 k487 : Nat) (sg_487 : Nat → Nat → Int32) (th_487 : Nat → Nat → Int32) (H : Heap) (locs : List Loc) (ls : Array Slot), k487 + n487 = G → it (fun (k : Nat) (v : (Nat → Nat → Int32) × (Nat → Nat → Int32)) => S_X5_pass_487 sh sr sg k v.1 v.2) n487 k487 (sg_487, th_487) = fin487 → va_P D vwCl ([(qm, .inr (5, [.ref on, .ref ro, .ref go, .int (nI n), .int sf])), (on, .inl (cy 3, 10, .inr (.inr (.inr (.inr (pf 10 un)))))), (ro, .inl (cy 3, R, .inr (.inr (.inr (.inr (pf R ar)))))), (go, .inl (cy 3, G, .inr (.inr (.inr (.inr (pf G ag))))))] ++ (rws cy 10 5 un th_487 ++ (rws cy R 2 ar sr ++ (rws cy G 6 ag sg_487 ++ Y)))) H → va_D A ([(qm, .inr (5, [.ref on, .ref ro, .ref go, .int (nI n), .int sf])), (on, .inl (cy 3, 10, .inr (.inr (.inr (.inr (pf 10 un)))))), (ro, .inl (cy 3, R, .inr (.inr (.inr (.inr (pf R ar)))))), (go, .inl (cy 3, G, .inr (.inr (.inr (.inr (pf G ag))))))] ++ (rws cy 10 5 un th_487 ++ (rws cy R 2 ar sr ++ (rws cy G 6 ag sg_487 ++ Y)))) → va_S A s.heap H locs → lv_has ls 12 [(6, .int (nI k487)), (5, .int (nI G)), (4, .ref go), (3, .int ((I_X5_pass_321 sh sr sg R G n).1)), (2, .int (F_X5_moon n)), (1, .ref on), (0, .ref qm)] → SI R G sr sg_487 → W p l e (RM 2 12 68 62) s m args below meth c H locs ((0 + 11) + 1) ((0 + 60) + 8) Q (F0 m 487 ls []) := by
      intro n487
      induction n487 with
      | zero =>
        intro k487 sg_487 th_487 H locs ls hkn487 hE487 hP hD hS hl hI487
        have hk487 : G = k487 := by omega
        subst hk487
        have hE487 : (sg_487, th_487) = fin487 := hE487
        subst hE487
        refine lv_iload hx hb dX5_pass_487 (lv_at hl 0 rfl) ?_
        refine lv_iload hx hb dX5_pass_489 (lv_at hl 1 rfl) ?_
        refine lv_icmp_ge (tgt := 601) hx hb dX5_pass_491 (by decide) (fun c491 => ?_) (fun c491 => ?_)
        rotate_left
        · exact absurd (nI_le (a := G) (b := G) (Nat.le_refl _) (by omega)) c491
        exact kk487 _ _ _ hP hD hS (lv_sub hl [0, 1, 2, 3, 4, 5, 6] rfl) hI487
      | succ n487 ih487 =>
        intro k487 sg_487 th_487 H locs ls hkn487 hE487 hP hD hS hl hI487
        have hlt487 : k487 < G := by omega
        refine lv_iload hx hb dX5_pass_487 (lv_at hl 0 rfl) ?_
        refine lv_iload hx hb dX5_pass_489 (lv_at hl 1 rfl) ?_
        refine lv_icmp_ge (tgt := 601) hx hb dX5_pass_491 (by decide) (fun c491 => ?_) (fun c491 => ?_)
        · exact absurd c491 (nI_ge (a := k487) (b := G) hlt487 (by omega))
        refine lv_aload hx hb dX5_pass_494 (lv_at hl 2 rfl) ?_
        refine lv_iload hx hb dX5_pass_496 (lv_at hl 0 rfl) ?_
        refine ald_p (n := G) (k := k487) hx hb hK hP 3 rfl (by omega) (by omega) dX5_pass_498 ?_
        refine lv_astore (lv' := [(7, .ref (ag k487)), (6, .int (nI k487)), (5, .int (nI G)), (4, .ref go), (3, .int ((I_X5_pass_321 sh sr sg R G n).1)), (2, .int (F_X5_moon n)), (1, .ref on), (0, .ref qm)]) hx hb dX5_pass_499 hl (by decide) rfl (fun ls hl => ?_)
        refine lv_aload_n hx hb dX5_pass_501 rfl (lv_at hl 7 rfl) ?_
        refine va_get (D := D) (ci := 5) (v := .ref on) (C := RX5) (T := TX5) (N := 5) hx hb hts hin5 hown hK hP 0 rfl rfl 0 (by decide) (hts (.fieldLink RX5 9 "FireflyInnLaw$Sim" "hedge" "[[I") (List.mem_of_getElem? (i := 1) rfl)) (fun _ h9 => h9) rfl dX5_pass_502 ?_
        refine lv_aload_n hx hb dX5_pass_505 rfl (lv_at hl 7 rfl) ?_
        refine va_get (D := D) (ci := 5) (v := .ref ro) (C := RX5) (T := TX5) (N := 5) hx hb hts hin5 hown hK hP 0 rfl rfl 1 (by decide) (hts (.fieldLink RX5 16 "FireflyInnLaw$Sim" "rooms" "[[I") (List.mem_of_getElem? (i := 2) rfl)) (fun _ h9 => h9) rfl dX5_pass_506 ?_
        refine lv_aload hx hb dX5_pass_509 (lv_at hl 0 rfl) ?_
        refine lv_iconst (v := 0) hx hb dX5_pass_511 (by decide) ?_
        refine ial_w (k := 0) hx hb hK hP (RSl.app _ (RSl.app _ (RSl.app _ (RSl.left _ (RSl.row (by omega)))))) (by omega) (by decide) dX5_pass_512 ?_
        refine lv_iv (y := (sg_487 k487 0)) rfl ?_
        have hr512 := (hI487.rm hR hlt487).2
        refine lv_iv (y := (nI (tn (sg_487 k487 0)))) (hI487.rm hR hlt487).1 ?_
        refine ald_p (n := R) (k := tn (sg_487 k487 0)) hx hb hK hP 2 rfl (by omega) (by omega) dX5_pass_513 ?_
        refine lv_iconst (v := 0) hx hb dX5_pass_514 (by decide) ?_
        refine ial_w (k := 0) hx hb hK hP (RSl.app _ (RSl.app _ (RSl.left _ (RSl.row (by omega))))) (by omega) (by decide) dX5_pass_515 ?_
        refine lv_iv (y := (sr (tn (sg_487 k487 0)) 0)) rfl ?_
        have hw515 := (hI487.win hr512).2
        refine lv_iv (y := (nI (tn (sr (tn (sg_487 k487 0)) 0)))) (hI487.win hr512).1 ?_
        refine ald_p (n := 10) (k := tn (sr (tn (sg_487 k487 0)) 0)) hx hb hK hP 1 rfl (by omega) (by decide) dX5_pass_516 ?_
        refine lv_astore (lv' := [(8, .ref (un (tn (sr (tn (sg_487 k487 0)) 0)))), (7, .ref (ag k487)), (6, .int (nI k487)), (5, .int (nI G)), (4, .ref go), (3, .int ((I_X5_pass_321 sh sr sg R G n).1)), (2, .int (F_X5_moon n)), (1, .ref on), (0, .ref qm)]) hx hb dX5_pass_517 hl (by decide) rfl (fun ls hl => ?_)
        refine lv_iconst (v := 0) hx hb dX5_pass_519 (by decide) ?_
        refine lv_istore (lv' := [(9, .int 0), (8, .ref (un (tn (sr (tn (sg_487 k487 0)) 0)))), (7, .ref (ag k487)), (6, .int (nI k487)), (5, .int (nI G)), (4, .ref go), (3, .int ((I_X5_pass_321 sh sr sg R G n).1)), (2, .int (F_X5_moon n)), (1, .ref on), (0, .ref qm)]) hx hb dX5_pass_520 hl (by decide) rfl (fun ls hl => ?_)
        obtain ⟨fin522, hfin522⟩ : ∃ z, (I_X5_pass_522 sh sr sg k487 sg_487 th_487) = z := ⟨_, rfl⟩
        suffices kk522 : ∀ (H : Heap) (locs : List Loc) (ls : Array Slot), va_P D vwCl ([(qm, .inr (5, [.ref on, .ref ro, .ref go, .int (nI n), .int sf])), (on, .inl (cy 3, 10, .inr (.inr (.inr (.inr (pf 10 un)))))), (ro, .inl (cy 3, R, .inr (.inr (.inr (.inr (pf R ar)))))), (go, .inl (cy 3, G, .inr (.inr (.inr (.inr (pf G ag))))))] ++ (rws cy 10 5 un fin522.2 ++ (rws cy R 2 ar sr ++ (rws cy G 6 ag fin522.1 ++ Y)))) H → va_D A ([(qm, .inr (5, [.ref on, .ref ro, .ref go, .int (nI n), .int sf])), (on, .inl (cy 3, 10, .inr (.inr (.inr (.inr (pf 10 un)))))), (ro, .inl (cy 3, R, .inr (.inr (.inr (.inr (pf R ar)))))), (go, .inl (cy 3, G, .inr (.inr (.inr (.inr (pf G ag))))))] ++ (rws cy 10 5 un fin522.2 ++ (rws cy R 2 ar sr ++ (rws cy G 6 ag fin522.1 ++ Y)))) → va_S A s.heap H locs → lv_has ls 12 [(8, .ref (un (tn (sr (tn (sg_487 k487 0)) 0)))), (7, .ref (ag k487)), (6, .int (nI k487)), (5, .int (nI G)), (4, .ref go), (3, .int ((I_X5_pass_321 sh sr sg R G n).1)), (2, .int (F_X5_moon n)), (1, .ref on), (0, .ref qm)] → SI R G sr fin522.1 → W p l e (RM 2 12 68 62) s m args below meth c H locs ((0 + 11) + 1) ((0 + 60) + 8) Q (F0 m 595 ls []) by
          have lp522 : ∀ (n522 k522 : Nat) (sg_522 : Nat → Nat → Int32) (th_522 : Nat → Nat → Int32) (H : Heap) (locs : List Loc) (ls : Array Slot), k522 + n522 = 5 → L_X5_pass_522 sh sr sg k487 sg_487 n522 k522 sg_522 th_522 = fin522 → va_P D vwCl ([(qm, .inr (5, [.ref on, .ref ro, .ref go, .int (nI n), .int sf])), (on, .inl (cy 3, 10, .inr (.inr (.inr (.inr (pf 10 un)))))), (ro, .inl (cy 3, R, .inr (.inr (.inr (.inr (pf R ar)))))), (go, .inl (cy 3, G, .inr (.inr (.inr (.inr (pf G ag))))))] ++ (rws cy 10 5 un th_522 ++ (rws cy R 2 ar sr ++ (rws cy G 6 ag sg_522 ++ Y)))) H → va_D A ([(qm, .inr (5, [.ref on, .ref ro, .ref go, .int (nI n), .int sf])), (on, .inl (cy 3, 10, .inr (.inr (.inr (.inr (pf 10 un)))))), (ro, .inl (cy 3, R, .inr (.inr (.inr (.inr (pf R ar)))))), (go, .inl (cy 3, G, .inr (.inr (.inr (.inr (pf G ag))))))] ++ (rws cy 10 5 un th_522 ++ (rws cy R 2 ar sr ++ (rws cy G 6 ag sg_522 ++ Y)))) → va_S A s.heap H locs → lv_has ls 12 [(9, .int (nI k522)), (8, .ref (un (tn (sr (tn (sg_487 k487 0)) 0)))), (7, .ref (ag k487)), (6, .int (nI k487)), (5, .int (nI G)), (4, .ref go), (3, .int ((I_X5_pass_321 sh sr sg R G n).1)), (2, .int (F_X5_moon n)), (1, .ref on), (0, .ref qm)] → SI R G sr sg_522 → W p l e (RM 2 12 68 62) s m args below meth c H locs ((0 + 11) + 1) ((0 + 60) + 8) Q (F0 m 522 ls []) := by
            intro n522
            induction n522 with
            | zero =>
              intro k522 sg_522 th_522 H locs ls hkn522 hE522 hP hD hS hl hI522
              have hk522 : 5 = k522 := by omega
              subst hk522
              have hE522 : (sg_522, th_522) = fin522 := hE522
              subst hE522
              refine lv_iload hx hb dX5_pass_522 (lv_at hl 0 rfl) ?_
              refine lv_iconst (v := 5) hx hb dX5_pass_524 (by decide) ?_
              refine lv_icmp_ge (tgt := 595) hx hb dX5_pass_525 (by decide) (fun c525 => ?_) (fun c525 => ?_)
              rotate_left
              · exact absurd (nI_le (a := 5) (b := 5) (Nat.le_refl _) (by decide)) c525
              exact kk522 _ _ _ hP hD hS (lv_sub hl [1, 2, 3, 4, 5, 6, 7, 8, 9] rfl) hI522
            | succ n522 ih522 =>
              intro k522 sg_522 th_522 H locs ls hkn522 hE522 hP hD hS hl hI522
              have hlt522 : k522 < 5 := by omega
              refine lv_iload hx hb dX5_pass_522 (lv_at hl 0 rfl) ?_
              refine lv_iconst (v := 5) hx hb dX5_pass_524 (by decide) ?_
              refine lv_icmp_ge (tgt := 595) hx hb dX5_pass_525 (by decide) (fun c525 => ?_) (fun c525 => ?_)
              · exact absurd c525 (nI_ge (a := k522) (b := 5) hlt522 (by decide))
              refine lv_aload hx hb dX5_pass_528 (lv_at hl 2 rfl) ?_
              refine lv_iconst (v := 2) hx hb dX5_pass_530 (by decide) ?_
              refine ial_w (k := 2) hx hb hK hP (RSl.app _ (RSl.app _ (RSl.app _ (RSl.left _ (RSl.row (by omega)))))) (by omega) (by decide) dX5_pass_531 ?_
              refine lv_iv (y := (sg_522 k487 2)) rfl ?_
              refine lv_iconst (v := 1) hx hb dX5_pass_532 (by decide) ?_
              refine lv_icmp_ne (tgt := 595) hx hb dX5_pass_533 (by decide) (fun c533 => ?_) (fun c533 => ?_)
              · have hq : (sg_522, th_522) = fin522 := (by rw [L_X5_pass_522, if_neg c533] : L_X5_pass_522 sh sr sg k487 sg_487 (n522 + 1) k522 sg_522 th_522 = (sg_522, th_522)).symm.trans hE522
                subst hq
                exact kk522 _ _ _ hP hD hS (lv_sub hl [1, 2, 3, 4, 5, 6, 7, 8, 9] rfl) hI522
              · refine lv_aload hx hb dX5_pass_536 (lv_at hl 1 rfl) ?_
                refine lv_iload hx hb dX5_pass_538 (lv_at hl 0 rfl) ?_
                refine ial_w (k := k522) hx hb hK hP (RSl.app _ (RSl.left _ (RSl.row (by omega)))) (by omega) (by decide) dX5_pass_540 ?_
                refine lv_iv (y := (th_522 (tn (sr (tn (sg_487 k487 0)) 0)) k522)) rfl ?_
                refine lv_if_ne (tgt := 547) hx hb dX5_pass_541 (by decide) (fun c541 => ?_) (fun c541 => ?_)
                · refine lv_aload hx hb dX5_pass_547 (lv_at hl 1 rfl) ?_
                  refine lv_iload hx hb dX5_pass_549 (lv_at hl 0 rfl) ?_
                  refine ial_w (k := k522) hx hb hK hP (RSl.app _ (RSl.left _ (RSl.row (by omega)))) (by omega) (by decide) dX5_pass_551 ?_
                  refine lv_iv (y := (th_522 (tn (sr (tn (sg_487 k487 0)) 0)) k522)) rfl ?_
                  refine lv_iconst (v := 3) hx hb dX5_pass_552 (by decide) ?_
                  suffices kj553 : ∀ (z : Int32) (H : Heap) (locs : List Loc), z = (T_X5_pass_553 sr k487 sg_487 k522 th_522) → va_P D vwCl ([(qm, .inr (5, [.ref on, .ref ro, .ref go, .int (nI n), .int sf])), (on, .inl (cy 3, 10, .inr (.inr (.inr (.inr (pf 10 un)))))), (ro, .inl (cy 3, R, .inr (.inr (.inr (.inr (pf R ar)))))), (go, .inl (cy 3, G, .inr (.inr (.inr (.inr (pf G ag))))))] ++ (rws cy 10 5 un th_522 ++ (rws cy R 2 ar sr ++ (rws cy G 6 ag sg_522 ++ Y)))) H → va_D A ([(qm, .inr (5, [.ref on, .ref ro, .ref go, .int (nI n), .int sf])), (on, .inl (cy 3, 10, .inr (.inr (.inr (.inr (pf 10 un)))))), (ro, .inl (cy 3, R, .inr (.inr (.inr (.inr (pf R ar)))))), (go, .inl (cy 3, G, .inr (.inr (.inr (.inr (pf G ag))))))] ++ (rws cy 10 5 un th_522 ++ (rws cy R 2 ar sr ++ (rws cy G 6 ag sg_522 ++ Y)))) → va_S A s.heap H locs → W p l e (RM 2 12 68 62) s m args below meth c H locs ((0 + 11) + 1) ((0 + 60) + 8) Q (F0 m 565 ls (.int z :: [])) by
                    refine lv_icmp_ge (tgt := 564) hx hb dX5_pass_553 (by decide) (fun c553 => ?_) (fun c553 => ?_)
                    · refine lv_iconst (v := 3) hx hb dX5_pass_564 (by decide) ?_
                      exact kj553 _ _ _ (show 3 = _ from (if_pos c553).symm) hP hD hS
                    · refine lv_aload hx hb dX5_pass_556 (lv_at hl 1 rfl) ?_
                      refine lv_iload hx hb dX5_pass_558 (lv_at hl 0 rfl) ?_
                      refine ial_w (k := k522) hx hb hK hP (RSl.app _ (RSl.left _ (RSl.row (by omega)))) (by omega) (by decide) dX5_pass_560 ?_
                      refine lv_iv (y := (th_522 (tn (sr (tn (sg_487 k487 0)) 0)) k522)) rfl ?_
                      refine lv_goto (tgt := 565) hx hb dX5_pass_561 (by decide) ?_
                      exact kj553 _ _ _ (show (th_522 (tn (sr (tn (sg_487 k487 0)) 0)) k522) = _ from (if_neg c553).symm) hP hD hS
                  intro z H locs hz hP hD hS
                  subst hz
                  refine lv_istore (lv' := [(10, .int (T_X5_pass_553 sr k487 sg_487 k522 th_522)), (9, .int (nI k522)), (8, .ref (un (tn (sr (tn (sg_487 k487 0)) 0)))), (7, .ref (ag k487)), (6, .int (nI k487)), (5, .int (nI G)), (4, .ref go), (3, .int ((I_X5_pass_321 sh sr sg R G n).1)), (2, .int (F_X5_moon n)), (1, .ref on), (0, .ref qm)]) hx hb dX5_pass_565 hl (by decide) rfl (fun ls hl => ?_)
                  refine lv_aload hx hb dX5_pass_567 (lv_at hl 2 rfl) ?_
                  refine lv_iload hx hb dX5_pass_569 (lv_at hl 1 rfl) ?_
                  refine lv_dup2_11 hx hb dX5_pass_571 rfl rfl ?_
                  refine ial_w (k := k522) hx hb hK hP (RSl.app _ (RSl.left _ (RSl.row (by omega)))) (by omega) (by decide) dX5_pass_572 ?_
                  refine lv_iv (y := (th_522 (tn (sr (tn (sg_487 k487 0)) 0)) k522)) rfl ?_
                  refine lv_iload hx hb dX5_pass_573 (lv_at hl 0 rfl) ?_
                  refine lv_isub hx hb dX5_pass_575 ?_
                  refine ias_w (k := k522) hx hb hK hP hD hS (RSl.app _ (RSl.left _ (RSl.row (by omega)))) (by omega) (by decide) dX5_pass_576 (fun H locs hP hD hS => ?_)
                  have hP : va_P D vwCl ([(qm, .inr (5, [.ref on, .ref ro, .ref go, .int (nI n), .int sf])), (on, .inl (cy 3, 10, .inr (.inr (.inr (.inr (pf 10 un)))))), (ro, .inl (cy 3, R, .inr (.inr (.inr (.inr (pf R ar)))))), (go, .inl (cy 3, G, .inr (.inr (.inr (.inr (pf G ag))))))] ++ (rws cy 10 5 un (up2 th_522 (tn (sr (tn (sg_487 k487 0)) 0)) k522 ((th_522 (tn (sr (tn (sg_487 k487 0)) 0)) k522) - (T_X5_pass_553 sr k487 sg_487 k522 th_522))) ++ (rws cy R 2 ar sr ++ (rws cy G 6 ag sg_522 ++ Y)))) H := hP
                  have hD : va_D A ([(qm, .inr (5, [.ref on, .ref ro, .ref go, .int (nI n), .int sf])), (on, .inl (cy 3, 10, .inr (.inr (.inr (.inr (pf 10 un)))))), (ro, .inl (cy 3, R, .inr (.inr (.inr (.inr (pf R ar)))))), (go, .inl (cy 3, G, .inr (.inr (.inr (.inr (pf G ag))))))] ++ (rws cy 10 5 un (up2 th_522 (tn (sr (tn (sg_487 k487 0)) 0)) k522 ((th_522 (tn (sr (tn (sg_487 k487 0)) 0)) k522) - (T_X5_pass_553 sr k487 sg_487 k522 th_522))) ++ (rws cy R 2 ar sr ++ (rws cy G 6 ag sg_522 ++ Y)))) := hD
                  refine lv_aload hx hb dX5_pass_577 (lv_at hl 3 rfl) ?_
                  refine lv_iconst (v := 3) hx hb dX5_pass_579 (by decide) ?_
                  refine lv_dup2_11 hx hb dX5_pass_580 rfl rfl ?_
                  refine ial_w (k := 3) hx hb hK hP (RSl.app _ (RSl.app _ (RSl.app _ (RSl.left _ (RSl.row (by omega)))))) (by omega) (by decide) dX5_pass_581 ?_
                  refine lv_iv (y := (sg_522 k487 3)) rfl ?_
                  refine lv_iload hx hb dX5_pass_582 (lv_at hl 0 rfl) ?_
                  refine lv_iadd hx hb dX5_pass_584 ?_
                  refine ias_w (k := 3) hx hb hK hP hD hS (RSl.app _ (RSl.app _ (RSl.app _ (RSl.left _ (RSl.row (by omega)))))) (by omega) (by decide) dX5_pass_585 (fun H locs hP hD hS => ?_)
                  have hP : va_P D vwCl ([(qm, .inr (5, [.ref on, .ref ro, .ref go, .int (nI n), .int sf])), (on, .inl (cy 3, 10, .inr (.inr (.inr (.inr (pf 10 un)))))), (ro, .inl (cy 3, R, .inr (.inr (.inr (.inr (pf R ar)))))), (go, .inl (cy 3, G, .inr (.inr (.inr (.inr (pf G ag))))))] ++ (rws cy 10 5 un (up2 th_522 (tn (sr (tn (sg_487 k487 0)) 0)) k522 ((th_522 (tn (sr (tn (sg_487 k487 0)) 0)) k522) - (T_X5_pass_553 sr k487 sg_487 k522 th_522))) ++ (rws cy R 2 ar sr ++ (rws cy G 6 ag (up2 sg_522 k487 3 ((sg_522 k487 3) + (T_X5_pass_553 sr k487 sg_487 k522 th_522))) ++ Y)))) H := hP
                  have hD : va_D A ([(qm, .inr (5, [.ref on, .ref ro, .ref go, .int (nI n), .int sf])), (on, .inl (cy 3, 10, .inr (.inr (.inr (.inr (pf 10 un)))))), (ro, .inl (cy 3, R, .inr (.inr (.inr (.inr (pf R ar)))))), (go, .inl (cy 3, G, .inr (.inr (.inr (.inr (pf G ag))))))] ++ (rws cy 10 5 un (up2 th_522 (tn (sr (tn (sg_487 k487 0)) 0)) k522 ((th_522 (tn (sr (tn (sg_487 k487 0)) 0)) k522) - (T_X5_pass_553 sr k487 sg_487 k522 th_522))) ++ (rws cy R 2 ar sr ++ (rws cy G 6 ag (up2 sg_522 k487 3 ((sg_522 k487 3) + (T_X5_pass_553 sr k487 sg_487 k522 th_522))) ++ Y)))) := hD
                  refine lv_goto (tgt := 595) hx hb dX5_pass_586 (by decide) ?_
                  have hq : ((up2 sg_522 k487 3 ((sg_522 k487 3) + (T_X5_pass_553 sr k487 sg_487 k522 th_522))), (up2 th_522 (tn (sr (tn (sg_487 k487 0)) 0)) k522 ((th_522 (tn (sr (tn (sg_487 k487 0)) 0)) k522) - (T_X5_pass_553 sr k487 sg_487 k522 th_522)))) = fin522 := (by rw [L_X5_pass_522, if_pos c533, if_neg c541] : L_X5_pass_522 sh sr sg k487 sg_487 (n522 + 1) k522 sg_522 th_522 = ((up2 sg_522 k487 3 ((sg_522 k487 3) + (T_X5_pass_553 sr k487 sg_487 k522 th_522))), (up2 th_522 (tn (sr (tn (sg_487 k487 0)) 0)) k522 ((th_522 (tn (sr (tn (sg_487 k487 0)) 0)) k522) - (T_X5_pass_553 sr k487 sg_487 k522 th_522))))).symm.trans hE522
                  subst hq
                  exact kk522 _ _ _ hP hD hS (lv_sub hl [2, 3, 4, 5, 6, 7, 8, 9, 10] rfl) (SI.up hI522 _ (by decide))
                · refine lv_goto (tgt := 589) hx hb dX5_pass_544 (by decide) ?_
                  refine lv_iinc (v := (nI (k522 + 1))) (lv' := [(9, .int (nI (k522 + 1))), (8, .ref (un (tn (sr (tn (sg_487 k487 0)) 0)))), (7, .ref (ag k487)), (6, .int (nI k487)), (5, .int (nI G)), (4, .ref go), (3, .int ((I_X5_pass_321 sh sr sg R G n).1)), (2, .int (F_X5_moon n)), (1, .ref on), (0, .ref qm)]) hx hb dX5_pass_589 hl (k := 0) rfl (nI_1 k522) (by decide) rfl (fun ls hl => ?_)
                  refine lv_goto (tgt := 522) hx hb dX5_pass_592 (by decide) ?_
                  exact ih522 (k522 + 1) sg_522 th_522 _ _ _ (by omega) ((by rw [L_X5_pass_522, if_pos c533, if_pos c541] : L_X5_pass_522 sh sr sg k487 sg_487 (n522 + 1) k522 sg_522 th_522 = L_X5_pass_522 sh sr sg k487 sg_487 n522 (k522 + 1) sg_522 th_522).symm.trans hE522) hP hD hS (lv_sub hl [0, 1, 2, 3, 4, 5, 6, 7, 8, 9] rfl) hI522
          exact lp522 5 0 sg_487 th_487 _ _ _ (by omega) hfin522 hP hD hS (lv_sub hl [0, 1, 2, 3, 4, 5, 6, 7, 8, 9] rfl) hI487
        intro H locs ls hP hD hS hl hI522
        subst hfin522
        refine lv_iinc (v := (nI (k487 + 1))) (lv' := [(6, .int (nI (k487 + 1))), (8, .ref (un (tn (sr (tn (sg_487 k487 0)) 0)))), (7, .ref (ag k487)), (5, .int (nI G)), (4, .ref go), (3, .int ((I_X5_pass_321 sh sr sg R G n).1)), (2, .int (F_X5_moon n)), (1, .ref on), (0, .ref qm)]) hx hb dX5_pass_595 hl (k := 2) rfl (nI_1 k487) (by decide) rfl (fun ls hl => ?_)
        refine lv_goto (tgt := 487) hx hb dX5_pass_598 (by decide) ?_
        exact ih487 (k487 + 1) ((I_X5_pass_522 sh sr sg k487 sg_487 th_487).1) ((I_X5_pass_522 sh sr sg k487 sg_487 th_487).2) _ _ _ (by omega) (it_step (f := (fun (k : Nat) (v : (Nat → Nat → Int32) × (Nat → Nat → Int32)) => S_X5_pass_487 sh sr sg k v.1 v.2)) (v := (sg_487, th_487)) (show S_X5_pass_487 sh sr sg k487 sg_487 th_487 = ((I_X5_pass_522 sh sr sg k487 sg_487 th_487).1, (I_X5_pass_522 sh sr sg k487 sg_487 th_487).2) from by rw [S_X5_pass_487]) hE487) hP hD hS (lv_sub hl [0, 3, 4, 5, 6, 7, 8] rfl) hI522
    exact lp487 G 0 ((I_X5_pass_321 sh sr sg R G n).2) (I_X5_pass_197 sh sr sg R G) _ _ _ (by omega) hfin487 hP hD hS (lv_sub hl [0, 1, 2, 3, 4, 5, 6] rfl) hI321
  intro H locs ls hP hD hS hl hI487
  subst hfin487
  refine lv_aload_n hx hb dX5_pass_601 rfl (lv_at hl 6 rfl) ?_
  refine va_get (D := D) (ci := 5) (v := .ref go) (C := RX5) (T := TX5) (N := 5) hx hb hts hin5 hown hK hP 0 rfl rfl 2 (by decide) (hts (.fieldLink RX5 19 "FireflyInnLaw$Sim" "guests" "[[I") (List.mem_of_getElem? (i := 4) rfl)) (fun _ h9 => h9) rfl dX5_pass_602 ?_
  refine lv_astore (lv' := [(4, .ref go), (6, .int (nI G)), (5, .int (nI G)), (3, .int ((I_X5_pass_321 sh sr sg R G n).1)), (2, .int (F_X5_moon n)), (1, .ref on), (0, .ref qm)]) hx hb dX5_pass_605 hl (by decide) rfl (fun ls hl => ?_)
  refine lv_aload hx hb dX5_pass_607 (lv_at hl 0 rfl) ?_
  refine va_alen (v := nI G) hx hb hK hP 3 3 rfl rfl rfl dX5_pass_609 ?_
  refine lv_istore (lv' := [(5, .int (nI G)), (4, .ref go), (6, .int (nI G)), (3, .int ((I_X5_pass_321 sh sr sg R G n).1)), (2, .int (F_X5_moon n)), (1, .ref on), (0, .ref qm)]) hx hb dX5_pass_610 hl (by decide) rfl (fun ls hl => ?_)
  refine lv_iconst (v := 0) hx hb dX5_pass_612 (by decide) ?_
  refine lv_istore (lv' := [(6, .int 0), (5, .int (nI G)), (4, .ref go), (3, .int ((I_X5_pass_321 sh sr sg R G n).1)), (2, .int (F_X5_moon n)), (1, .ref on), (0, .ref qm)]) hx hb dX5_pass_613 hl (by decide) rfl (fun ls hl => ?_)
  obtain ⟨fin615, hfin615⟩ : ∃ z, (I_X5_pass_615 sf sh sr sg R G n) = z := ⟨_, rfl⟩
  suffices kk615 : ∀ (H : Heap) (locs : List Loc) (ls : Array Slot), va_P D vwCl ([(qm, .inr (5, [.ref on, .ref ro, .ref go, .int (nI n), .int fin615.1])), (on, .inl (cy 3, 10, .inr (.inr (.inr (.inr (pf 10 un)))))), (ro, .inl (cy 3, R, .inr (.inr (.inr (.inr (pf R ar)))))), (go, .inl (cy 3, G, .inr (.inr (.inr (.inr (pf G ag))))))] ++ (rws cy 10 5 un ((I_X5_pass_487 sh sr sg R G n).2) ++ (rws cy R 2 ar sr ++ (rws cy G 6 ag fin615.2 ++ Y)))) H → va_D A ([(qm, .inr (5, [.ref on, .ref ro, .ref go, .int (nI n), .int fin615.1])), (on, .inl (cy 3, 10, .inr (.inr (.inr (.inr (pf 10 un)))))), (ro, .inl (cy 3, R, .inr (.inr (.inr (.inr (pf R ar)))))), (go, .inl (cy 3, G, .inr (.inr (.inr (.inr (pf G ag))))))] ++ (rws cy 10 5 un ((I_X5_pass_487 sh sr sg R G n).2) ++ (rws cy R 2 ar sr ++ (rws cy G 6 ag fin615.2 ++ Y)))) → va_S A s.heap H locs → lv_has ls 12 [(6, .int (nI G)), (5, .int (nI G)), (4, .ref go), (3, .int ((I_X5_pass_321 sh sr sg R G n).1)), (2, .int (F_X5_moon n)), (1, .ref on), (0, .ref qm)] → SI R G sr fin615.2 → W p l e (RM 2 12 68 62) s m args below meth c H locs ((0 + 11) + 1) ((0 + 60) + 8) Q (F0 m 675 ls []) by
    have lp615 : ∀ (n615 k615 : Nat) (sf_615 : Int32) (sg_615 : Nat → Nat → Int32) (H : Heap) (locs : List Loc) (ls : Array Slot), k615 + n615 = G → it (fun (k : Nat) (v : Int32 × (Nat → Nat → Int32)) => S_X5_pass_615 R n k v.1 v.2) n615 k615 (sf_615, sg_615) = fin615 → va_P D vwCl ([(qm, .inr (5, [.ref on, .ref ro, .ref go, .int (nI n), .int sf_615])), (on, .inl (cy 3, 10, .inr (.inr (.inr (.inr (pf 10 un)))))), (ro, .inl (cy 3, R, .inr (.inr (.inr (.inr (pf R ar)))))), (go, .inl (cy 3, G, .inr (.inr (.inr (.inr (pf G ag))))))] ++ (rws cy 10 5 un ((I_X5_pass_487 sh sr sg R G n).2) ++ (rws cy R 2 ar sr ++ (rws cy G 6 ag sg_615 ++ Y)))) H → va_D A ([(qm, .inr (5, [.ref on, .ref ro, .ref go, .int (nI n), .int sf_615])), (on, .inl (cy 3, 10, .inr (.inr (.inr (.inr (pf 10 un)))))), (ro, .inl (cy 3, R, .inr (.inr (.inr (.inr (pf R ar)))))), (go, .inl (cy 3, G, .inr (.inr (.inr (.inr (pf G ag))))))] ++ (rws cy 10 5 un ((I_X5_pass_487 sh sr sg R G n).2) ++ (rws cy R 2 ar sr ++ (rws cy G 6 ag sg_615 ++ Y)))) → va_S A s.heap H locs → lv_has ls 12 [(6, .int (nI k615)), (5, .int (nI G)), (4, .ref go), (3, .int ((I_X5_pass_321 sh sr sg R G n).1)), (2, .int (F_X5_moon n)), (1, .ref on), (0, .ref qm)] → SI R G sr sg_615 → W p l e (RM 2 12 68 62) s m args below meth c H locs ((0 + 11) + 1) ((0 + 60) + 8) Q (F0 m 615 ls []) := by
      intro n615
      induction n615 with
      | zero =>
        intro k615 sf_615 sg_615 H locs ls hkn615 hE615 hP hD hS hl hI615
        have hk615 : G = k615 := by omega
        subst hk615
        have hE615 : (sf_615, sg_615) = fin615 := hE615
        subst hE615
        refine lv_iload hx hb dX5_pass_615 (lv_at hl 0 rfl) ?_
        refine lv_iload hx hb dX5_pass_617 (lv_at hl 1 rfl) ?_
        refine lv_icmp_ge (tgt := 675) hx hb dX5_pass_619 (by decide) (fun c619 => ?_) (fun c619 => ?_)
        rotate_left
        · exact absurd (nI_le (a := G) (b := G) (Nat.le_refl _) (by omega)) c619
        exact kk615 _ _ _ hP hD hS (lv_sub hl [0, 1, 2, 3, 4, 5, 6] rfl) hI615
      | succ n615 ih615 =>
        intro k615 sf_615 sg_615 H locs ls hkn615 hE615 hP hD hS hl hI615
        have hlt615 : k615 < G := by omega
        refine lv_iload hx hb dX5_pass_615 (lv_at hl 0 rfl) ?_
        refine lv_iload hx hb dX5_pass_617 (lv_at hl 1 rfl) ?_
        refine lv_icmp_ge (tgt := 675) hx hb dX5_pass_619 (by decide) (fun c619 => ?_) (fun c619 => ?_)
        · exact absurd c619 (nI_ge (a := k615) (b := G) hlt615 (by omega))
        refine lv_aload hx hb dX5_pass_622 (lv_at hl 2 rfl) ?_
        refine lv_iload hx hb dX5_pass_624 (lv_at hl 0 rfl) ?_
        refine ald_p (n := G) (k := k615) hx hb hK hP 3 rfl (by omega) (by omega) dX5_pass_626 ?_
        refine lv_astore (lv' := [(7, .ref (ag k615)), (6, .int (nI k615)), (5, .int (nI G)), (4, .ref go), (3, .int ((I_X5_pass_321 sh sr sg R G n).1)), (2, .int (F_X5_moon n)), (1, .ref on), (0, .ref qm)]) hx hb dX5_pass_627 hl (by decide) rfl (fun ls hl => ?_)
        refine lv_aload_n hx hb dX5_pass_629 rfl (lv_at hl 7 rfl) ?_
        refine lv_aload hx hb dX5_pass_630 (lv_at hl 0 rfl) ?_
        refine lv_aload_n hx hb dX5_pass_632 rfl (lv_at hl 7 rfl) ?_
        refine va_get (D := D) (ci := 5) (v := .int (nI n)) (C := RX5) (T := TX5) (N := 5) hx hb hts hin5 hown hK hP 0 rfl rfl 3 (by decide) (hts (.fieldLink RX5 31 "FireflyInnLaw$Sim" "night" "I") (List.mem_of_getElem? (i := 3) rfl)) (fun _ h9 => h9) rfl dX5_pass_633 ?_
        refine lv_aload_n hx hb dX5_pass_636 rfl (lv_at hl 7 rfl) ?_
        refine va_get (D := D) (ci := 5) (v := .ref ro) (C := RX5) (T := TX5) (N := 5) hx hb hts hin5 hown hK hP 0 rfl rfl 1 (by decide) (hts (.fieldLink RX5 16 "FireflyInnLaw$Sim" "rooms" "[[I") (List.mem_of_getElem? (i := 2) rfl)) (fun _ h9 => h9) rfl dX5_pass_637 ?_
        refine va_alen (v := nI R) hx hb hK hP 2 3 rfl rfl rfl dX5_pass_640 ?_
        refine lv_irem hx hb dX5_pass_641 (nI_ne0 (by have := (hI615.rm hR hlt615).2; omega) (by omega)) ?_
        refine lv_iv (y := rmd (nI n) (nI R)) rfl ?_
        refine cl_iP (S := Unit) (X := [(qm, .inr (5, [.ref on, .ref ro, .ref go, .int (nI n), .int sf_615])), (on, .inl (cy 3, 10, .inr (.inr (.inr (.inr (pf 10 un)))))), (ro, .inl (cy 3, R, .inr (.inr (.inr (.inr (pf R ar)))))), (go, .inl (cy 3, G, .inr (.inr (.inr (.inr (pf G ag))))))]) (wr := []) (rx := fun _ => [(qm, .inr (5, [.ref on, .ref ro, .ref go, .int (nI n), .int sf_615])), (on, .inl (cy 3, 10, .inr (.inr (.inr (.inr (pf 10 un)))))), (ro, .inl (cy 3, R, .inr (.inr (.inr (.inr (pf R ar)))))), (go, .inl (cy 3, G, .inr (.inr (.inr (.inr (pf G ag))))))]) (p1 := fun _ => (rws cy 10 5 un ((I_X5_pass_487 sh sr sg R G n).2) ++ (rws cy R 2 ar sr ++ (rws cy G 6 ag sg_615 ++ Y)))) (rn_VP (As := [.ref (ag k615), .int (rmd (nI n) (nI R))]) (rest := []) (ci := 5) (q0 := 0) ⟨hx, hb, hml, hown, hts⟩ (k_X5_isIn l D cy _ qm on ro go un ar ag Y (nI n) sf_615 ((I_X5_pass_487 sh sr sg R G n).2) sr sg_615 R G k615 (rmd (nI n) (nI R)) (by omega) (by omega) (by omega)) (cwV 2 hts gX5_pass_X5_isIn rfl rfl rfl (by decide +kernel) ⟨Nat.le_of_ble_eq_true rfl, Nat.le_of_ble_eq_true rfl⟩) hN hK hP hD [0, 1, 2, 3] rfl (by decide) rfl rfl rfl rfl hl.1 rfl (Nat.le_of_ble_eq_true rfl) dX5_pass_642 ⟨(show ((0 + 11) + 1) + 0 ≤ 12 by omega), (show ((0 + 60) + 8) + 0 ≤ 68 by omega)⟩) hP hD hS hA [0, 1, 2, 3] [] rfl rfl (by decide) (by decide) (fun _ => rfl) (fun r9 u9 H locs h9 hP hD hS => ?_)
        have h9 : r9 = (F_X5_isIn sg_615 k615 (rmd (nI n) (nI R))) := h9
        subst h9
        have hP : va_P D vwCl ([(qm, .inr (5, [.ref on, .ref ro, .ref go, .int (nI n), .int sf_615])), (on, .inl (cy 3, 10, .inr (.inr (.inr (.inr (pf 10 un)))))), (ro, .inl (cy 3, R, .inr (.inr (.inr (.inr (pf R ar)))))), (go, .inl (cy 3, G, .inr (.inr (.inr (.inr (pf G ag))))))] ++ (rws cy 10 5 un ((I_X5_pass_487 sh sr sg R G n).2) ++ (rws cy R 2 ar sr ++ (rws cy G 6 ag sg_615 ++ Y)))) H := va_P.part hP [0, 1, 2, 3] rfl
        have hD : va_D A ([(qm, .inr (5, [.ref on, .ref ro, .ref go, .int (nI n), .int sf_615])), (on, .inl (cy 3, 10, .inr (.inr (.inr (.inr (pf 10 un)))))), (ro, .inl (cy 3, R, .inr (.inr (.inr (.inr (pf R ar)))))), (go, .inl (cy 3, G, .inr (.inr (.inr (.inr (pf G ag))))))] ++ (rws cy 10 5 un ((I_X5_pass_487 sh sr sg R G n).2) ++ (rws cy R 2 ar sr ++ (rws cy G 6 ag sg_615 ++ Y)))) := va_D.part hD [0, 1, 2, 3] (by decide) rfl
        refine lv_if_ne (tgt := 651) hx hb dX5_pass_645 (by decide) (fun c645 => ?_) (fun c645 => ?_)
        · refine lv_aload_n hx hb dX5_pass_651 rfl (lv_at hl 7 rfl) ?_
          refine lv_dup hx hb dX5_pass_652 rfl ?_
          refine va_get (D := D) (ci := 5) (v := .int sf_615) (C := RX5) (T := TX5) (N := 5) hx hb hts hin5 hown hK hP 0 rfl rfl 4 (by decide) (hts (.fieldLink RX5 50 "FireflyInnLaw$Sim" "found" "I") (List.mem_of_getElem? (i := 5) rfl)) (fun _ h9 => h9) rfl dX5_pass_653 ?_
          refine lv_aload hx hb dX5_pass_656 (lv_at hl 0 rfl) ?_
          refine lv_iconst (v := 2) hx hb dX5_pass_658 (by decide) ?_
          refine ial_w (k := 2) hx hb hK hP (RSl.app _ (RSl.app _ (RSl.app _ (RSl.left _ (RSl.row (by omega)))))) (by omega) (by decide) dX5_pass_659 ?_
          refine lv_iv (y := (sg_615 k615 2)) rfl ?_
          refine lv_iadd hx hb dX5_pass_660 ?_
          refine va_put (D := D) (ci := 5) (v := .int (sf_615 + (sg_615 k615 2))) (ty := .int) (C := RX5) (T := TX5) (N := 5) hx hb hts hin5 tyX5 tyX5_ok nmX5 hown hK hP hD hS 0 rfl rfl 4 (by decide) (hts (.fieldLink RX5 50 "FireflyInnLaw$Sim" "found" "I") (List.mem_of_getElem? (i := 5) rfl)) (fun _ h9 => h9) rfl (by decide +kernel) rfl rfl (Nat.le_of_ble_eq_true rfl) dX5_pass_661 (fun H locs hP hD hS => ?_)
          have hP : va_P D vwCl ([(qm, .inr (5, [.ref on, .ref ro, .ref go, .int (nI n), .int (sf_615 + (sg_615 k615 2))])), (on, .inl (cy 3, 10, .inr (.inr (.inr (.inr (pf 10 un)))))), (ro, .inl (cy 3, R, .inr (.inr (.inr (.inr (pf R ar)))))), (go, .inl (cy 3, G, .inr (.inr (.inr (.inr (pf G ag))))))] ++ (rws cy 10 5 un ((I_X5_pass_487 sh sr sg R G n).2) ++ (rws cy R 2 ar sr ++ (rws cy G 6 ag sg_615 ++ Y)))) H := hP
          have hD : va_D A ([(qm, .inr (5, [.ref on, .ref ro, .ref go, .int (nI n), .int (sf_615 + (sg_615 k615 2))])), (on, .inl (cy 3, 10, .inr (.inr (.inr (.inr (pf 10 un)))))), (ro, .inl (cy 3, R, .inr (.inr (.inr (.inr (pf R ar)))))), (go, .inl (cy 3, G, .inr (.inr (.inr (.inr (pf G ag))))))] ++ (rws cy 10 5 un ((I_X5_pass_487 sh sr sg R G n).2) ++ (rws cy R 2 ar sr ++ (rws cy G 6 ag sg_615 ++ Y)))) := hD
          refine lv_aload hx hb dX5_pass_664 (lv_at hl 0 rfl) ?_
          refine lv_iconst (v := 2) hx hb dX5_pass_666 (by decide) ?_
          refine lv_iconst (v := 0) hx hb dX5_pass_667 (by decide) ?_
          refine ias_w (k := 2) hx hb hK hP hD hS (RSl.app _ (RSl.app _ (RSl.app _ (RSl.left _ (RSl.row (by omega)))))) (by omega) (by decide) dX5_pass_668 (fun H locs hP hD hS => ?_)
          have hP : va_P D vwCl ([(qm, .inr (5, [.ref on, .ref ro, .ref go, .int (nI n), .int (sf_615 + (sg_615 k615 2))])), (on, .inl (cy 3, 10, .inr (.inr (.inr (.inr (pf 10 un)))))), (ro, .inl (cy 3, R, .inr (.inr (.inr (.inr (pf R ar)))))), (go, .inl (cy 3, G, .inr (.inr (.inr (.inr (pf G ag))))))] ++ (rws cy 10 5 un ((I_X5_pass_487 sh sr sg R G n).2) ++ (rws cy R 2 ar sr ++ (rws cy G 6 ag (up2 sg_615 k615 2 0) ++ Y)))) H := hP
          have hD : va_D A ([(qm, .inr (5, [.ref on, .ref ro, .ref go, .int (nI n), .int (sf_615 + (sg_615 k615 2))])), (on, .inl (cy 3, 10, .inr (.inr (.inr (.inr (pf 10 un)))))), (ro, .inl (cy 3, R, .inr (.inr (.inr (.inr (pf R ar)))))), (go, .inl (cy 3, G, .inr (.inr (.inr (.inr (pf G ag))))))] ++ (rws cy 10 5 un ((I_X5_pass_487 sh sr sg R G n).2) ++ (rws cy R 2 ar sr ++ (rws cy G 6 ag (up2 sg_615 k615 2 0) ++ Y)))) := hD
          refine lv_iinc (v := (nI (k615 + 1))) (lv' := [(6, .int (nI (k615 + 1))), (7, .ref (ag k615)), (5, .int (nI G)), (4, .ref go), (3, .int ((I_X5_pass_321 sh sr sg R G n).1)), (2, .int (F_X5_moon n)), (1, .ref on), (0, .ref qm)]) hx hb dX5_pass_669 hl (k := 1) rfl (nI_1 k615) (by decide) rfl (fun ls hl => ?_)
          refine lv_goto (tgt := 615) hx hb dX5_pass_672 (by decide) ?_
          exact ih615 (k615 + 1) (sf_615 + (sg_615 k615 2)) (up2 sg_615 k615 2 0) _ _ _ (by omega) (it_step (f := (fun (k : Nat) (v : Int32 × (Nat → Nat → Int32)) => S_X5_pass_615 R n k v.1 v.2)) (v := (sf_615, sg_615)) (show S_X5_pass_615 R n k615 sf_615 sg_615 = ((sf_615 + (sg_615 k615 2)), (up2 sg_615 k615 2 0)) from by rw [S_X5_pass_615, if_neg c645]) hE615) hP hD hS (lv_sub hl [0, 2, 3, 4, 5, 6, 7] rfl) (SI.up hI615 _ (by decide))
        · refine lv_goto (tgt := 669) hx hb dX5_pass_648 (by decide) ?_
          refine lv_iinc (v := (nI (k615 + 1))) (lv' := [(6, .int (nI (k615 + 1))), (7, .ref (ag k615)), (5, .int (nI G)), (4, .ref go), (3, .int ((I_X5_pass_321 sh sr sg R G n).1)), (2, .int (F_X5_moon n)), (1, .ref on), (0, .ref qm)]) hx hb dX5_pass_669 hl (k := 1) rfl (nI_1 k615) (by decide) rfl (fun ls hl => ?_)
          refine lv_goto (tgt := 615) hx hb dX5_pass_672 (by decide) ?_
          exact ih615 (k615 + 1) sf_615 sg_615 _ _ _ (by omega) (it_step (f := (fun (k : Nat) (v : Int32 × (Nat → Nat → Int32)) => S_X5_pass_615 R n k v.1 v.2)) (v := (sf_615, sg_615)) (show S_X5_pass_615 R n k615 sf_615 sg_615 = (sf_615, sg_615) from by rw [S_X5_pass_615, if_pos c645]) hE615) hP hD hS (lv_sub hl [0, 2, 3, 4, 5, 6, 7] rfl) hI615
    exact lp615 G 0 sf ((I_X5_pass_487 sh sr sg R G n).1) _ _ _ (by omega) hfin615 hP hD hS (lv_sub hl [0, 1, 2, 3, 4, 5, 6] rfl) hI487
  intro H locs ls hP hD hS hl hI615
  subst hfin615
  refine lv_iconst (v := 0) hx hb dX5_pass_675 (by decide) ?_
  refine lv_istore (lv' := [(4, .int 0), (6, .int (nI G)), (5, .int (nI G)), (3, .int ((I_X5_pass_321 sh sr sg R G n).1)), (2, .int (F_X5_moon n)), (1, .ref on), (0, .ref qm)]) hx hb dX5_pass_676 hl (by decide) rfl (fun ls hl => ?_)
  obtain ⟨fin678, hfin678⟩ : ∃ z, (I_X5_pass_678 sh sr sg R G n) = z := ⟨_, rfl⟩
  suffices kk678 : ∀ (H : Heap) (locs : List Loc) (ls : Array Slot), va_P D vwCl ([(qm, .inr (5, [.ref on, .ref ro, .ref go, .int (nI n), .int ((I_X5_pass_615 sf sh sr sg R G n).1)])), (on, .inl (cy 3, 10, .inr (.inr (.inr (.inr (pf 10 un)))))), (ro, .inl (cy 3, R, .inr (.inr (.inr (.inr (pf R ar)))))), (go, .inl (cy 3, G, .inr (.inr (.inr (.inr (pf G ag))))))] ++ (rws cy 10 5 un fin678 ++ (rws cy R 2 ar sr ++ (rws cy G 6 ag ((I_X5_pass_615 sf sh sr sg R G n).2) ++ Y)))) H → va_D A ([(qm, .inr (5, [.ref on, .ref ro, .ref go, .int (nI n), .int ((I_X5_pass_615 sf sh sr sg R G n).1)])), (on, .inl (cy 3, 10, .inr (.inr (.inr (.inr (pf 10 un)))))), (ro, .inl (cy 3, R, .inr (.inr (.inr (.inr (pf R ar)))))), (go, .inl (cy 3, G, .inr (.inr (.inr (.inr (pf G ag))))))] ++ (rws cy 10 5 un fin678 ++ (rws cy R 2 ar sr ++ (rws cy G 6 ag ((I_X5_pass_615 sf sh sr sg R G n).2) ++ Y)))) → va_S A s.heap H locs → lv_has ls 12 [(4, .int (nI 10)), (3, .int ((I_X5_pass_321 sh sr sg R G n).1)), (1, .ref on), (0, .ref qm)] → W p l e (RM 2 12 68 62) s m args below meth c H locs ((0 + 11) + 1) ((0 + 60) + 8) Q (F0 m 754 ls []) by
    have lp678 : ∀ (n678 k678 : Nat) (th_678 : Nat → Nat → Int32) (H : Heap) (locs : List Loc) (ls : Array Slot), k678 + n678 = 10 → it (fun (k : Nat) (v : Nat → Nat → Int32) => S_X5_pass_678 sr R k v) n678 k678 th_678 = fin678 → va_P D vwCl ([(qm, .inr (5, [.ref on, .ref ro, .ref go, .int (nI n), .int ((I_X5_pass_615 sf sh sr sg R G n).1)])), (on, .inl (cy 3, 10, .inr (.inr (.inr (.inr (pf 10 un)))))), (ro, .inl (cy 3, R, .inr (.inr (.inr (.inr (pf R ar)))))), (go, .inl (cy 3, G, .inr (.inr (.inr (.inr (pf G ag))))))] ++ (rws cy 10 5 un th_678 ++ (rws cy R 2 ar sr ++ (rws cy G 6 ag ((I_X5_pass_615 sf sh sr sg R G n).2) ++ Y)))) H → va_D A ([(qm, .inr (5, [.ref on, .ref ro, .ref go, .int (nI n), .int ((I_X5_pass_615 sf sh sr sg R G n).1)])), (on, .inl (cy 3, 10, .inr (.inr (.inr (.inr (pf 10 un)))))), (ro, .inl (cy 3, R, .inr (.inr (.inr (.inr (pf R ar)))))), (go, .inl (cy 3, G, .inr (.inr (.inr (.inr (pf G ag))))))] ++ (rws cy 10 5 un th_678 ++ (rws cy R 2 ar sr ++ (rws cy G 6 ag ((I_X5_pass_615 sf sh sr sg R G n).2) ++ Y)))) → va_S A s.heap H locs → lv_has ls 12 [(4, .int (nI k678)), (3, .int ((I_X5_pass_321 sh sr sg R G n).1)), (1, .ref on), (0, .ref qm)] → W p l e (RM 2 12 68 62) s m args below meth c H locs ((0 + 11) + 1) ((0 + 60) + 8) Q (F0 m 678 ls []) := by
      intro n678
      induction n678 with
      | zero =>
        intro k678 th_678 H locs ls hkn678 hE678 hP hD hS hl
        have hk678 : 10 = k678 := by omega
        subst hk678
        have hE678 : th_678 = fin678 := hE678
        subst hE678
        refine lv_iload hx hb dX5_pass_678 (lv_at hl 0 rfl) ?_
        refine lv_bipush (v := 10) hx hb dX5_pass_680 (by decide) ?_
        refine lv_icmp_ge (tgt := 754) hx hb dX5_pass_682 (by decide) (fun c682 => ?_) (fun c682 => ?_)
        rotate_left
        · exact absurd (nI_le (a := 10) (b := 10) (Nat.le_refl _) (by decide)) c682
        exact kk678 _ _ _ hP hD hS (lv_sub hl [0, 1, 2, 3] rfl)
      | succ n678 ih678 =>
        intro k678 th_678 H locs ls hkn678 hE678 hP hD hS hl
        have hlt678 : k678 < 10 := by omega
        refine lv_iload hx hb dX5_pass_678 (lv_at hl 0 rfl) ?_
        refine lv_bipush (v := 10) hx hb dX5_pass_680 (by decide) ?_
        refine lv_icmp_ge (tgt := 754) hx hb dX5_pass_682 (by decide) (fun c682 => ?_) (fun c682 => ?_)
        · exact absurd c682 (nI_ge (a := k678) (b := 10) hlt678 (by decide))
        refine lv_iconst (v := 0) hx hb dX5_pass_685 (by decide) ?_
        refine lv_istore (lv' := [(5, .int 0), (4, .int (nI k678)), (3, .int ((I_X5_pass_321 sh sr sg R G n).1)), (1, .ref on), (0, .ref qm)]) hx hb dX5_pass_686 hl (by decide) rfl (fun ls hl => ?_)
        obtain ⟨fin688, hfin688⟩ : ∃ z, (I_X5_pass_688 sr R k678 th_678) = z := ⟨_, rfl⟩
        suffices kk688 : ∀ (H : Heap) (locs : List Loc) (ls : Array Slot), va_P D vwCl ([(qm, .inr (5, [.ref on, .ref ro, .ref go, .int (nI n), .int ((I_X5_pass_615 sf sh sr sg R G n).1)])), (on, .inl (cy 3, 10, .inr (.inr (.inr (.inr (pf 10 un)))))), (ro, .inl (cy 3, R, .inr (.inr (.inr (.inr (pf R ar)))))), (go, .inl (cy 3, G, .inr (.inr (.inr (.inr (pf G ag))))))] ++ (rws cy 10 5 un fin688 ++ (rws cy R 2 ar sr ++ (rws cy G 6 ag ((I_X5_pass_615 sf sh sr sg R G n).2) ++ Y)))) H → va_D A ([(qm, .inr (5, [.ref on, .ref ro, .ref go, .int (nI n), .int ((I_X5_pass_615 sf sh sr sg R G n).1)])), (on, .inl (cy 3, 10, .inr (.inr (.inr (.inr (pf 10 un)))))), (ro, .inl (cy 3, R, .inr (.inr (.inr (.inr (pf R ar)))))), (go, .inl (cy 3, G, .inr (.inr (.inr (.inr (pf G ag))))))] ++ (rws cy 10 5 un fin688 ++ (rws cy R 2 ar sr ++ (rws cy G 6 ag ((I_X5_pass_615 sf sh sr sg R G n).2) ++ Y)))) → va_S A s.heap H locs → lv_has ls 12 [(5, .int (nI 5)), (4, .int (nI k678)), (3, .int ((I_X5_pass_321 sh sr sg R G n).1)), (1, .ref on), (0, .ref qm)] → W p l e (RM 2 12 68 62) s m args below meth c H locs ((0 + 11) + 1) ((0 + 60) + 8) Q (F0 m 748 ls []) by
          have lp688 : ∀ (n688 k688 : Nat) (th_688 : Nat → Nat → Int32) (H : Heap) (locs : List Loc) (ls : Array Slot), k688 + n688 = 5 → it (fun (k : Nat) (v : Nat → Nat → Int32) => S_X5_pass_688 sr R k678 k v) n688 k688 th_688 = fin688 → va_P D vwCl ([(qm, .inr (5, [.ref on, .ref ro, .ref go, .int (nI n), .int ((I_X5_pass_615 sf sh sr sg R G n).1)])), (on, .inl (cy 3, 10, .inr (.inr (.inr (.inr (pf 10 un)))))), (ro, .inl (cy 3, R, .inr (.inr (.inr (.inr (pf R ar)))))), (go, .inl (cy 3, G, .inr (.inr (.inr (.inr (pf G ag))))))] ++ (rws cy 10 5 un th_688 ++ (rws cy R 2 ar sr ++ (rws cy G 6 ag ((I_X5_pass_615 sf sh sr sg R G n).2) ++ Y)))) H → va_D A ([(qm, .inr (5, [.ref on, .ref ro, .ref go, .int (nI n), .int ((I_X5_pass_615 sf sh sr sg R G n).1)])), (on, .inl (cy 3, 10, .inr (.inr (.inr (.inr (pf 10 un)))))), (ro, .inl (cy 3, R, .inr (.inr (.inr (.inr (pf R ar)))))), (go, .inl (cy 3, G, .inr (.inr (.inr (.inr (pf G ag))))))] ++ (rws cy 10 5 un th_688 ++ (rws cy R 2 ar sr ++ (rws cy G 6 ag ((I_X5_pass_615 sf sh sr sg R G n).2) ++ Y)))) → va_S A s.heap H locs → lv_has ls 12 [(5, .int (nI k688)), (4, .int (nI k678)), (3, .int ((I_X5_pass_321 sh sr sg R G n).1)), (1, .ref on), (0, .ref qm)] → W p l e (RM 2 12 68 62) s m args below meth c H locs ((0 + 11) + 1) ((0 + 60) + 8) Q (F0 m 688 ls []) := by
            intro n688
            induction n688 with
            | zero =>
              intro k688 th_688 H locs ls hkn688 hE688 hP hD hS hl
              have hk688 : 5 = k688 := by omega
              subst hk688
              have hE688 : th_688 = fin688 := hE688
              subst hE688
              refine lv_iload hx hb dX5_pass_688 (lv_at hl 0 rfl) ?_
              refine lv_iconst (v := 5) hx hb dX5_pass_690 (by decide) ?_
              refine lv_icmp_ge (tgt := 748) hx hb dX5_pass_691 (by decide) (fun c691 => ?_) (fun c691 => ?_)
              rotate_left
              · exact absurd (nI_le (a := 5) (b := 5) (Nat.le_refl _) (by decide)) c691
              exact kk688 _ _ _ hP hD hS (lv_sub hl [0, 1, 2, 3, 4] rfl)
            | succ n688 ih688 =>
              intro k688 th_688 H locs ls hkn688 hE688 hP hD hS hl
              have hlt688 : k688 < 5 := by omega
              refine lv_iload hx hb dX5_pass_688 (lv_at hl 0 rfl) ?_
              refine lv_iconst (v := 5) hx hb dX5_pass_690 (by decide) ?_
              refine lv_icmp_ge (tgt := 748) hx hb dX5_pass_691 (by decide) (fun c691 => ?_) (fun c691 => ?_)
              · exact absurd c691 (nI_ge (a := k688) (b := 5) hlt688 (by decide))
              refine lv_aload_n hx hb dX5_pass_694 rfl (lv_at hl 4 rfl) ?_
              refine lv_iload hx hb dX5_pass_695 (lv_at hl 1 rfl) ?_
              refine cl_iP (S := Unit) (X := [(qm, .inr (5, [.ref on, .ref ro, .ref go, .int (nI n), .int ((I_X5_pass_615 sf sh sr sg R G n).1)])), (on, .inl (cy 3, 10, .inr (.inr (.inr (.inr (pf 10 un)))))), (ro, .inl (cy 3, R, .inr (.inr (.inr (.inr (pf R ar)))))), (go, .inl (cy 3, G, .inr (.inr (.inr (.inr (pf G ag))))))]) (wr := []) (rx := fun _ => [(qm, .inr (5, [.ref on, .ref ro, .ref go, .int (nI n), .int ((I_X5_pass_615 sf sh sr sg R G n).1)])), (on, .inl (cy 3, 10, .inr (.inr (.inr (.inr (pf 10 un)))))), (ro, .inl (cy 3, R, .inr (.inr (.inr (.inr (pf R ar)))))), (go, .inl (cy 3, G, .inr (.inr (.inr (.inr (pf G ag))))))]) (p1 := fun _ => (rws cy 10 5 un th_688 ++ (rws cy R 2 ar sr ++ (rws cy G 6 ag ((I_X5_pass_615 sf sh sr sg R G n).2) ++ Y)))) (rn_VP (As := [.int (nI k678)]) (rest := []) (ci := 5) (q0 := 0) ⟨hx, hb, hml, hown, hts⟩ (k_X5_lit l D cy _ qm on ro go un ar ag Y (nI n) ((I_X5_pass_615 sf sh sr sg R G n).1) th_688 sr ((I_X5_pass_615 sf sh sr sg R G n).2) R G (nI k678) (by omega) (by omega)) (cwV 1 hts gX5_pass_X5_lit rfl rfl rfl (by decide +kernel) ⟨Nat.le_of_ble_eq_true rfl, Nat.le_of_ble_eq_true rfl⟩) hN hK hP hD [0, 1, 2, 3] rfl (by decide) rfl rfl rfl rfl hl.1 rfl (Nat.le_of_ble_eq_true rfl) dX5_pass_697 ⟨(show ((0 + 11) + 1) + 0 ≤ 12 by omega), (show ((0 + 60) + 8) + 0 ≤ 68 by omega)⟩) hP hD hS hA [0, 1, 2, 3] [] rfl rfl (by decide) (by decide) (fun _ => rfl) (fun r9 u9 H locs h9 hP hD hS => ?_)
              have h9 : r9 = (F_X5_lit sr R (nI k678)) := h9
              subst h9
              have hP : va_P D vwCl ([(qm, .inr (5, [.ref on, .ref ro, .ref go, .int (nI n), .int ((I_X5_pass_615 sf sh sr sg R G n).1)])), (on, .inl (cy 3, 10, .inr (.inr (.inr (.inr (pf 10 un)))))), (ro, .inl (cy 3, R, .inr (.inr (.inr (.inr (pf R ar)))))), (go, .inl (cy 3, G, .inr (.inr (.inr (.inr (pf G ag))))))] ++ (rws cy 10 5 un th_688 ++ (rws cy R 2 ar sr ++ (rws cy G 6 ag ((I_X5_pass_615 sf sh sr sg R G n).2) ++ Y)))) H := va_P.part hP [0, 1, 2, 3] rfl
              have hD : va_D A ([(qm, .inr (5, [.ref on, .ref ro, .ref go, .int (nI n), .int ((I_X5_pass_615 sf sh sr sg R G n).1)])), (on, .inl (cy 3, 10, .inr (.inr (.inr (.inr (pf 10 un)))))), (ro, .inl (cy 3, R, .inr (.inr (.inr (.inr (pf R ar)))))), (go, .inl (cy 3, G, .inr (.inr (.inr (.inr (pf G ag))))))] ++ (rws cy 10 5 un th_688 ++ (rws cy R 2 ar sr ++ (rws cy G 6 ag ((I_X5_pass_615 sf sh sr sg R G n).2) ++ Y)))) := va_D.part hD [0, 1, 2, 3] (by decide) rfl
              refine lv_if_ne (tgt := 742) hx hb dX5_pass_700 (by decide) (fun c700 => ?_) (fun c700 => ?_)
              · refine lv_iinc (v := (nI (k688 + 1))) (lv' := [(5, .int (nI (k688 + 1))), (4, .int (nI k678)), (3, .int ((I_X5_pass_321 sh sr sg R G n).1)), (1, .ref on), (0, .ref qm)]) hx hb dX5_pass_742 hl (k := 0) rfl (nI_1 k688) (by decide) rfl (fun ls hl => ?_)
                refine lv_goto (tgt := 688) hx hb dX5_pass_745 (by decide) ?_
                exact ih688 (k688 + 1) th_688 _ _ _ (by omega) (it_step (f := (fun (k : Nat) (v : Nat → Nat → Int32) => S_X5_pass_688 sr R k678 k v)) (v := th_688) (show S_X5_pass_688 sr R k678 k688 th_688 = th_688 from by rw [S_X5_pass_688, if_neg c700]) hE688) hP hD hS (lv_sub hl [0, 1, 2, 3, 4] rfl)
              · refine lv_aload_n hx hb dX5_pass_703 rfl (lv_at hl 4 rfl) ?_
                refine va_get (D := D) (ci := 5) (v := .ref on) (C := RX5) (T := TX5) (N := 5) hx hb hts hin5 hown hK hP 0 rfl rfl 0 (by decide) (hts (.fieldLink RX5 9 "FireflyInnLaw$Sim" "hedge" "[[I") (List.mem_of_getElem? (i := 1) rfl)) (fun _ h9 => h9) rfl dX5_pass_704 ?_
                refine lv_iload hx hb dX5_pass_707 (lv_at hl 1 rfl) ?_
                refine ald_p (n := 10) (k := k678) hx hb hK hP 1 rfl (by omega) (by decide) dX5_pass_709 ?_
                refine lv_iload hx hb dX5_pass_710 (lv_at hl 0 rfl) ?_
                refine lv_bipush (v := 40) hx hb dX5_pass_712 (by decide) ?_
                refine lv_aload_n hx hb dX5_pass_714 rfl (lv_at hl 4 rfl) ?_
                refine va_get (D := D) (ci := 5) (v := .ref on) (C := RX5) (T := TX5) (N := 5) hx hb hts hin5 hown hK hP 0 rfl rfl 0 (by decide) (hts (.fieldLink RX5 9 "FireflyInnLaw$Sim" "hedge" "[[I") (List.mem_of_getElem? (i := 1) rfl)) (fun _ h9 => h9) rfl dX5_pass_715 ?_
                refine lv_iload hx hb dX5_pass_718 (lv_at hl 1 rfl) ?_
                refine ald_p (n := 10) (k := k678) hx hb hK hP 1 rfl (by omega) (by decide) dX5_pass_720 ?_
                refine lv_iload hx hb dX5_pass_721 (lv_at hl 0 rfl) ?_
                refine ial_w (k := k688) hx hb hK hP (RSl.app _ (RSl.left _ (RSl.row (by omega)))) (by omega) (by decide) dX5_pass_723 ?_
                refine lv_iv (y := (th_688 k678 k688)) rfl ?_
                refine lv_bipush (v := 10) hx hb dX5_pass_724 (by decide) ?_
                refine lv_idiv hx hb dX5_pass_726 (by decide) ?_
                refine lv_aload_n hx hb dX5_pass_727 rfl (lv_at hl 4 rfl) ?_
                refine va_get (D := D) (ci := 5) (v := .ref on) (C := RX5) (T := TX5) (N := 5) hx hb hts hin5 hown hK hP 0 rfl rfl 0 (by decide) (hts (.fieldLink RX5 9 "FireflyInnLaw$Sim" "hedge" "[[I") (List.mem_of_getElem? (i := 1) rfl)) (fun _ h9 => h9) rfl dX5_pass_728 ?_
                refine lv_iload hx hb dX5_pass_731 (lv_at hl 1 rfl) ?_
                refine ald_p (n := 10) (k := k678) hx hb hK hP 1 rfl (by omega) (by decide) dX5_pass_733 ?_
                refine lv_iload hx hb dX5_pass_734 (lv_at hl 0 rfl) ?_
                refine ial_w (k := k688) hx hb hK hP (RSl.app _ (RSl.left _ (RSl.row (by omega)))) (by omega) (by decide) dX5_pass_736 ?_
                refine lv_iv (y := (th_688 k678 k688)) rfl ?_
                refine lv_iadd hx hb dX5_pass_737 ?_
                refine va_mmin (rest := [.int (nI k688), .ref (un k678)]) hx hb (hml.trans hl.1.symm) hown (hts (.methodLink RX5 53 Lib.Math.min.name) (List.mem_of_getElem? (i := 6) rfl)) (hts (.static Lib.Math.min.name) (List.mem_of_getElem? (i := 7) rfl)) (hts (.initialized "java/lang/Math") (List.mem_of_getElem? (i := 8) rfl)) (hts (.code Lib.Math.min.name Lib.Math.min.code 2 (some .int)) (List.mem_of_getElem? (i := 9) rfl)) (Nat.le_of_ble_eq_true rfl) (Nat.le_of_ble_eq_true rfl) (Nat.le_of_ble_eq_true rfl) (Nat.le_of_ble_eq_true rfl) dX5_pass_738 ?_
                refine lv_iv (y := (mn 40 (((th_688 k678 k688) / 10) + (th_688 k678 k688)))) rfl ?_
                refine ias_w (k := k688) hx hb hK hP hD hS (RSl.app _ (RSl.left _ (RSl.row (by omega)))) (by omega) (by decide) dX5_pass_741 (fun H locs hP hD hS => ?_)
                have hP : va_P D vwCl ([(qm, .inr (5, [.ref on, .ref ro, .ref go, .int (nI n), .int ((I_X5_pass_615 sf sh sr sg R G n).1)])), (on, .inl (cy 3, 10, .inr (.inr (.inr (.inr (pf 10 un)))))), (ro, .inl (cy 3, R, .inr (.inr (.inr (.inr (pf R ar)))))), (go, .inl (cy 3, G, .inr (.inr (.inr (.inr (pf G ag))))))] ++ (rws cy 10 5 un (up2 th_688 k678 k688 (mn 40 (((th_688 k678 k688) / 10) + (th_688 k678 k688)))) ++ (rws cy R 2 ar sr ++ (rws cy G 6 ag ((I_X5_pass_615 sf sh sr sg R G n).2) ++ Y)))) H := hP
                have hD : va_D A ([(qm, .inr (5, [.ref on, .ref ro, .ref go, .int (nI n), .int ((I_X5_pass_615 sf sh sr sg R G n).1)])), (on, .inl (cy 3, 10, .inr (.inr (.inr (.inr (pf 10 un)))))), (ro, .inl (cy 3, R, .inr (.inr (.inr (.inr (pf R ar)))))), (go, .inl (cy 3, G, .inr (.inr (.inr (.inr (pf G ag))))))] ++ (rws cy 10 5 un (up2 th_688 k678 k688 (mn 40 (((th_688 k678 k688) / 10) + (th_688 k678 k688)))) ++ (rws cy R 2 ar sr ++ (rws cy G 6 ag ((I_X5_pass_615 sf sh sr sg R G n).2) ++ Y)))) := hD
                refine lv_iinc (v := (nI (k688 + 1))) (lv' := [(5, .int (nI (k688 + 1))), (4, .int (nI k678)), (3, .int ((I_X5_pass_321 sh sr sg R G n).1)), (1, .ref on), (0, .ref qm)]) hx hb dX5_pass_742 hl (k := 0) rfl (nI_1 k688) (by decide) rfl (fun ls hl => ?_)
                refine lv_goto (tgt := 688) hx hb dX5_pass_745 (by decide) ?_
                exact ih688 (k688 + 1) (up2 th_688 k678 k688 (mn 40 (((th_688 k678 k688) / 10) + (th_688 k678 k688)))) _ _ _ (by omega) (it_step (f := (fun (k : Nat) (v : Nat → Nat → Int32) => S_X5_pass_688 sr R k678 k v)) (v := th_688) (show S_X5_pass_688 sr R k678 k688 th_688 = (up2 th_688 k678 k688 (mn 40 (((th_688 k678 k688) / 10) + (th_688 k678 k688)))) from by rw [S_X5_pass_688, if_pos c700]) hE688) hP hD hS (lv_sub hl [0, 1, 2, 3, 4] rfl)
          exact lp688 5 0 th_678 _ _ _ (by omega) hfin688 hP hD hS (lv_sub hl [0, 1, 2, 3, 4] rfl)
        intro H locs ls hP hD hS hl
        subst hfin688
        refine lv_iinc (v := (nI (k678 + 1))) (lv' := [(4, .int (nI (k678 + 1))), (5, .int (nI 5)), (3, .int ((I_X5_pass_321 sh sr sg R G n).1)), (1, .ref on), (0, .ref qm)]) hx hb dX5_pass_748 hl (k := 1) rfl (nI_1 k678) (by decide) rfl (fun ls hl => ?_)
        refine lv_goto (tgt := 678) hx hb dX5_pass_751 (by decide) ?_
        exact ih678 (k678 + 1) (I_X5_pass_688 sr R k678 th_678) _ _ _ (by omega) (it_step (f := (fun (k : Nat) (v : Nat → Nat → Int32) => S_X5_pass_678 sr R k v)) (v := th_678) (show S_X5_pass_678 sr R k678 th_678 = (I_X5_pass_688 sr R k678 th_678) from by rw [S_X5_pass_678]) hE678) hP hD hS (lv_sub hl [0, 2, 3, 4] rfl)
    exact lp678 10 0 ((I_X5_pass_487 sh sr sg R G n).2) _ _ _ (by omega) hfin678 hP hD hS (lv_sub hl [0, 3, 5, 6] rfl)
  intro H locs ls hP hD hS hl
  subst hfin678
  refine lv_aload_n hx hb dX5_pass_754 rfl (lv_at hl 3 rfl) ?_
  refine lv_dup hx hb dX5_pass_755 rfl ?_
  refine va_get (D := D) (ci := 5) (v := .int (nI n)) (C := RX5) (T := TX5) (N := 5) hx hb hts hin5 hown hK hP 0 rfl rfl 3 (by decide) (hts (.fieldLink RX5 31 "FireflyInnLaw$Sim" "night" "I") (List.mem_of_getElem? (i := 3) rfl)) (fun _ h9 => h9) rfl dX5_pass_756 ?_
  refine lv_iconst (v := 1) hx hb dX5_pass_759 (by decide) ?_
  refine lv_iadd hx hb dX5_pass_760 ?_
  refine lv_iv (y := (nI (n + 1))) (nI_add n 1) ?_
  refine va_put (D := D) (ci := 5) (v := .int (nI (n + 1))) (ty := .int) (C := RX5) (T := TX5) (N := 5) hx hb hts hin5 tyX5 tyX5_ok nmX5 hown hK hP hD hS 0 rfl rfl 3 (by decide) (hts (.fieldLink RX5 31 "FireflyInnLaw$Sim" "night" "I") (List.mem_of_getElem? (i := 3) rfl)) (fun _ h9 => h9) rfl (by decide +kernel) rfl rfl (Nat.le_of_ble_eq_true rfl) dX5_pass_761 (fun H locs hP hD hS => ?_)
  have hP : va_P D vwCl ([(qm, .inr (5, [.ref on, .ref ro, .ref go, .int (nI (n + 1)), .int ((I_X5_pass_615 sf sh sr sg R G n).1)])), (on, .inl (cy 3, 10, .inr (.inr (.inr (.inr (pf 10 un)))))), (ro, .inl (cy 3, R, .inr (.inr (.inr (.inr (pf R ar)))))), (go, .inl (cy 3, G, .inr (.inr (.inr (.inr (pf G ag))))))] ++ (rws cy 10 5 un (I_X5_pass_678 sh sr sg R G n) ++ (rws cy R 2 ar sr ++ (rws cy G 6 ag ((I_X5_pass_615 sf sh sr sg R G n).2) ++ Y)))) H := hP
  have hD : va_D A ([(qm, .inr (5, [.ref on, .ref ro, .ref go, .int (nI (n + 1)), .int ((I_X5_pass_615 sf sh sr sg R G n).1)])), (on, .inl (cy 3, 10, .inr (.inr (.inr (.inr (pf 10 un)))))), (ro, .inl (cy 3, R, .inr (.inr (.inr (.inr (pf R ar)))))), (go, .inl (cy 3, G, .inr (.inr (.inr (.inr (pf G ag))))))] ++ (rws cy 10 5 un (I_X5_pass_678 sh sr sg R G n) ++ (rws cy R 2 ar sr ++ (rws cy G 6 ag ((I_X5_pass_615 sf sh sr sg R G n).2) ++ Y)))) := hD
  refine lv_iload_n hx hb dX5_pass_764 rfl (lv_at hl 1 rfl) ?_
  subst hQ
  have hE9 : (F_X5_pass sf sh sr sg R G n) = ((I_X5_pass_321 sh sr sg R G n).1, (I_X5_pass_678 sh sr sg R G n), (I_X5_pass_615 sf sh sr sg R G n).2, (nI (n + 1)), (I_X5_pass_615 sf sh sr sg R G n).1) := (by rw [F_X5_pass])
  rw [hE9]
  exact en_iE (un, on) hx hb hr hlocks rfl hK hP hD hS (by omega) (by omega) dX5_pass_765
