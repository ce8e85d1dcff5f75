-- a night by hand, beside the words of the night: driving, falling
theorem upd_comm (f : Nat → Int32) {i j : Nat} (x y : Int32) (h : i ≠ j) : upd (upd f i x) j y = upd (upd f j y) i x := by
  funext k
  by_cases h1 : k = i
  · subst h1
    rw [pk_un h, pk_us, pk_us]
  · by_cases h2 : k = j
    · subst h2
      rw [pk_us, pk_un h1, pk_us]
    · rw [pk_un h2, pk_un h1, pk_un h1, pk_un h2]
theorem aside_T {R G : Nat} {sr sg : Nat → Nat → Int32} (h : SI R G sr sg) {k : Nat} (hk : k < 10) : T_X5_pass_50 sr R k = F_M_aside (EW sr) (EL sr) R (nI k) := by
  have e32 : T_X5_pass_32 sr R k = if 9 ≤ nI k then -1 else if F_M_lit (EW sr) (EL sr) R (nI k + 1) = 0 then nI k + 1 else -1 := by
    unfold T_X5_pass_32
    by_cases c : 9 ≤ nI k
    · rw [if_pos c, if_pos c]
    · have c9 : k < 9 := nlt_of (n := 9) c (by omega) (by omega)
      rw [if_neg c, if_neg c, s_lit h (by omega), nI_1]
  unfold T_X5_pass_50 F_M_aside
  by_cases c0 : nI k ≤ 0
  · rw [if_pos c0, if_pos c0, e32]
  · rw [if_neg c0, if_neg c0]
    cases k with
    | zero => exact absurd (by decide) c0
    | succ k => rw [nI_pred, s_lit h (by omega), e32]
section
variable {R G : Nat} {sh sr sg : Nat → Nat → Int32}
theorem d70 (eb : Nat → Int32) {x j : Nat} (hx : x < 10) (hj : j < 10) (eT : T_X5_pass_50 sr R x = nI j) (eM : T_M_drive_28 (EW sr) (EL sr) R x = nI j) : ∀ (n y : Nat) (th : Nat → Nat → Int32), y + n ≤ 5 → EH (L_X5_pass_70 sh sr R x n y th) = it (fun (k : Nat) (v : Nat → Int32) => S_M_drive_43 (EH sh) (EW sr) (EL sr) eb R x k v) n y (EH th) := by
  intro n
  induction n with
  | zero => intro y th _; rfl
  | succ n ih =>
    intro y th hy
    have ht : tn (T_X5_pass_50 sr R x) = j := by unfold tn; rw [eT, nI_clamp (by omega)]
    unfold L_X5_pass_70
    rw [if_neg (by rw [eT]; exact nI_pos (by omega)), ih _ _ (by omega), ht]
    show _ = it (fun (k : Nat) (v : Nat → Int32) => S_M_drive_43 (EH sh) (EW sr) (EL sr) eb R x k v) n (y + 1) (S_M_drive_43 (EH sh) (EW sr) (EL sr) eb R x y (EH th))
    refine congrArg (it (fun (k : Nat) (v : Nat → Int32) => S_M_drive_43 (EH sh) (EW sr) (EL sr) eb R x k v) n (y + 1)) ?_
    unfold S_M_drive_43
    rw [if_neg (by rw [eM]; intro q; have := congrArg Int32.toInt q; rw [nI_toInt (by omega)] at this; have e9 : (-1 : Int32).toInt = -1 := rfl; omega), eM, nI_add, nI_clamp (by omega), cpy_at (show 10 * y + x < 50 by omega), eh_at sh hx, eh_at th hx]
    generalize th x y - sh x y / 2 = z
    rw [eh_up _ hj, eh_up _ hx, ← eh_at (up2 th x y z) hj, eh_up _ hx]
theorem drive1 (h : SI R G sr sg) (eb : Nat → Int32) : EH (I_X5_pass_10 sh sr R) = I_M_drive_17 (EH sh) (EW sr) (EL sr) eb R := by
  refine it_sim (P := fun _ a b => EH a = b) 10 0 sh (EH sh) (fun x a b _ hx hab => ?_) rfl
  subst hab
  show EH (S_X5_pass_10 sh sr R x a) = S_M_drive_17 (EH sh) (EW sr) (EL sr) eb R x (EH a)
  unfold S_X5_pass_10 S_M_drive_17 I_M_drive_43
  rw [s_lit h (by omega)]
  by_cases c : F_M_lit (EW sr) (EL sr) R (nI x) = 0
  · rw [if_pos c]
    refine (it_fix (fun k => ?_) 5 0).symm
    unfold S_M_drive_43 T_M_drive_28
    rw [if_pos c, if_pos rfl]
  · rw [if_neg c]
    have e28 : T_M_drive_28 (EW sr) (EL sr) R x = T_X5_pass_50 sr R x := by
      unfold T_M_drive_28
      rw [if_neg c, aside_T h (by omega)]
    by_cases cA : F_M_aside (EW sr) (EL sr) R (nI x) = -1
    · have eT : T_X5_pass_50 sr R x = -1 := by rw [aside_T h (by omega), cA]
      have e1 : I_X5_pass_70 sh sr R x a = a := by
        unfold I_X5_pass_70 L_X5_pass_70
        rw [if_pos (by rw [eT]; decide)]
      rw [e1]
      refine (it_fix (fun k => ?_) 5 0).symm
      unfold S_M_drive_43
      rw [e28, eT, if_pos rfl]
    · obtain ⟨j, hj, e⟩ := aside_rng (EW sr) (EL sr) R (k := x) (by omega) cA
      have eT : T_X5_pass_50 sr R x = nI j := by rw [aside_T h (by omega), e]
      exact d70 eb (by omega) hj eT (by rw [e28, eT]) 5 0 a (by omega)
end
/-- a number of each place, by places: two loops -/
theorem grid {S : Nat → Nat → (Nat → Nat → Int32) → Nat → Nat → Int32} {g : Nat → Nat → Int32 → Int32} (hS : ∀ x y a, x < 10 → y < 5 → ∀ x' y', S x y a x' y' = if x' = x ∧ y' = y then g x y (a x y) else a x' y') (a : Nat → Nat → Int32) : ∀ x y, x < 10 → y < 5 → (it (fun (k : Nat) (v : Nat → Nat → Int32) => it (fun (j : Nat) (w : Nat → Nat → Int32) => S k j w) 5 0 v) 10 0 a) x y = g x y (a x y) := by
  have inner : ∀ k, k < 10 → ∀ (v : Nat → Nat → Int32) (x y : Nat), y < 5 → (it (fun (j : Nat) (w : Nat → Nat → Int32) => S k j w) 5 0 v) x y = if x = k then g k y (v k y) else v x y := by
    intro k hk v
    have key := it_ind (P := fun j (w : Nat → Nat → Int32) => ∀ x y, w x y = if x = k ∧ y < j then g k y (v k y) else v x y) (f := fun (j : Nat) (w : Nat → Nat → Int32) => S k j w) 5 0 v (fun j w h1 h3 hw x y => by
      show S k j w x y = _
      rw [hS k j w hk (by omega)]
      by_cases c : x = k ∧ y = j
      · rw [if_pos c, if_pos ⟨c.1, by omega⟩, c.2, hw, if_neg (fun q => Nat.lt_irrefl _ q.2)]
      · rw [if_neg c, hw]
        by_cases d : x = k ∧ y < j
        · rw [if_pos d, if_pos ⟨d.1, by omega⟩]
        · rw [if_neg d, if_neg (fun q => by
            by_cases e : y = j
            · exact c ⟨q.1, e⟩
            · exact d ⟨q.1, by omega⟩)]) (fun x y => by rw [if_neg (fun q => absurd q.2 (Nat.not_lt_zero _))])
    intro x y hy
    rw [Nat.zero_add] at key
    rw [key x y]
    by_cases c : x = k
    · rw [if_pos ⟨c, hy⟩, if_pos c]
    · rw [if_neg (fun q => c q.1), if_neg c]
  have key := it_ind (P := fun k (w : Nat → Nat → Int32) => ∀ x y, y < 5 → w x y = if x < k then g x y (a x y) else a x y) (f := fun (k : Nat) (v : Nat → Nat → Int32) => it (fun (j : Nat) (w : Nat → Nat → Int32) => S k j w) 5 0 v) 10 0 a (fun k w h1 h3 hw x y hy => by
    show (it (fun (j : Nat) (w : Nat → Nat → Int32) => S k j w) 5 0 w) x y = _
    rw [inner k (by omega) w x y hy]
    by_cases c : x = k
    · subst c
      rw [if_pos rfl, if_pos (Nat.lt_succ_self _), hw x y hy, if_neg (Nat.lt_irrefl _)]
    · rw [if_neg c, hw x y hy]
      by_cases d : x < k
      · rw [if_pos d, if_pos (by omega)]
      · rw [if_neg d, if_neg (by omega)]) (fun x y _ => by rw [if_neg (Nat.not_lt_zero _)])
  intro x y hx hy
  rw [Nat.zero_add] at key
  rw [key x y hy, if_pos hx]
/-- the same along one row -/
theorem line {S : Nat → (Nat → Int32) → Nat → Int32} {g : Nat → Int32 → Int32} {N : Nat} (hS : ∀ i a, i < N → ∀ i', S i a i' = if i' = i then g i (a i) else a i') (a : Nat → Int32) : ∀ i, i < N → (it (fun (k : Nat) (v : Nat → Int32) => S k v) N 0 a) i = g i (a i) := by
  have key := it_ind (P := fun k (w : Nat → Int32) => ∀ i, w i = if i < k then g i (a i) else a i) (f := fun (k : Nat) (v : Nat → Int32) => S k v) N 0 a (fun k w h1 h3 hw i => by
    show S k w i = _
    rw [hS k w (by omega)]
    by_cases c : i = k
    · subst c
      rw [if_pos rfl, if_pos (Nat.lt_succ_self _), hw, if_neg (Nat.lt_irrefl _)]
    · rw [if_neg c, hw]
      by_cases d : i < k
      · rw [if_pos d, if_pos (by omega)]
      · rw [if_neg d, if_neg (by omega)]) (fun i => by rw [if_neg (Nat.not_lt_zero _)])
  intro i hi
  rw [Nat.zero_add] at key
  rw [key i, if_pos hi]
theorem cap_mn (v : Int32) : (if v ≤ 40 then v else 40) = mn 40 v := by
  unfold mn
  by_cases c : v < 40
  · rw [if_pos c, if_pos (by rw [i_lt] at c; rw [i_le]; omega)]
  · rw [if_neg c]
    by_cases d : v ≤ 40
    · rw [if_pos d, i_eq]
      rw [i_lt] at c
      rw [i_le] at d
      omega
    · rw [if_neg d]
section
variable {R G : Nat} {sh sr sg : Nat → Nat → Int32}
theorem cap1 (a : Nat → Nat → Int32) {x y : Nat} (hx : x < 10) (hy : y < 5) : (it (fun (k : Nat) (v : Nat → Nat → Int32) => S_X5_pass_140 k v) 10 0 a) x y = mn 40 (a x y) := by
  refine grid (S := fun k j w => S_X5_pass_155 k j w) (g := fun _ _ v => mn 40 v) (fun x y a _ _ x' y' => ?_) a x y hx hy
  show S_X5_pass_155 x y a x' y' = if x' = x ∧ y' = y then mn 40 (a x y) else a x' y'
  unfold S_X5_pass_155
  rw [← cap_mn]
  by_cases c : a x y ≤ 40
  · rw [if_pos c, if_pos c]
    by_cases d : x' = x ∧ y' = y
    · rw [if_pos d, d.1, d.2]
    · rw [if_neg d]
  · rw [if_neg c, if_neg c]
    by_cases d : x' = x ∧ y' = y
    · rw [if_pos d, d.1, d.2, up2_s]
    · rw [if_neg d]
      by_cases e : x' = x
      · exact up2_k _ _ _ _ (fun q => d ⟨e, q⟩)
      · exact up2_j _ _ _ _ e
theorem cap2 (b : Nat → Int32) {i : Nat} (hi : i < 50) : (it (fun (k : Nat) (v : Nat → Int32) => S_M_drive_114 k v) 50 0 b) i = mn 40 (b i) := by
  refine line (S := fun k v => S_M_drive_114 k v) (g := fun _ v => mn 40 v) (fun i a _ i' => ?_) b i hi
  show upd a i (mn 40 (a i)) i' = _
  by_cases c : i' = i
  · subst c
    rw [pk_us, if_pos rfl]
  · rw [pk_un c, if_neg c]
theorem drive2 (h : SI R G sr sg) (eb : Nat → Int32) {i : Nat} (hi : i < 50) : EH (I_X5_pass_140 sh sr R) i = (F_M_drive (EH sh) (EW sr) (EL sr) eb R).1 i := by
  show (it (fun (k : Nat) (v : Nat → Nat → Int32) => S_X5_pass_140 k v) 10 0 (I_X5_pass_10 sh sr R)) (i % 10) (i / 10) = (it (fun (k : Nat) (v : Nat → Int32) => S_M_drive_114 k v) 50 0 (I_M_drive_17 (EH sh) (EW sr) (EL sr) eb R)) i
  rw [cap1 _ (by omega) (by omega), cap2 _ hi, ← drive1 h eb]
  rfl
theorem fall1 {w r : Nat} (hw : w < 10) (er : sr r 0 = nI w) {th : Nat → Nat → Int32} {eh : Nat → Int32} (h : RH (EH th) eh) : RH (EH (I_X5_pass_236 sr r th)) (F_M_fall eh (nI w)) := by
  refine itd_sim (P := fun _ a b => RH (EH a) b) 4 th eh (fun j a b hj hab => ?_) h
  show RH (EH (S_X5_pass_236 sr r j a)) (S_M_fall_2 (nI w) j b)
  have et : tn (sr r 0) = w := by unfold tn; rw [er, nI_clamp (by omega)]
  obtain ⟨q1, p, hp, e1⟩ := hab (10 * j + w) (by omega)
  obtain ⟨q2, q, hq, e2⟩ := hab (10 * (j + 1) + w) (by omega)
  have a1 : a w j = nI p := by rw [← eh_at a hw, q1, e1]
  have a2 : a w (j + 1) = nI q := by rw [← eh_at a hw, q2, e2]
  have em : T_X5_pass_261 sr r j a = nI (min (q + p) 40) := by
    unfold T_X5_pass_261
    rw [et, a1, a2, nI_add]
    by_cases c : q + p ≤ 40
    · rw [if_pos (show nI (q + p) ≤ 40 from nI_le (b := 40) c (by decide)), Nat.min_eq_left c]
    · rw [if_neg (show ¬ nI (q + p) ≤ 40 from nI_ge (a := 40) (by omega) (by omega)), Nat.min_eq_right (by omega)]
      rfl
  unfold S_X5_pass_236 S_M_fall_2
  rw [em, et, up2_s, a1, a2, nI_add, pk_sub (by omega), nI_add, nI_add, nI_clamp (by omega), nI_clamp (by omega), show 10 * j + 10 + w = 10 * (j + 1) + w by omega, pk_un (show 10 * (j + 1) + w ≠ 10 * j + w by omega), e1, e2, show (40 : Int32) = nI 40 from rfl, pk_sub (show q ≤ 40 by omega), mn_n (by omega) (by omega), pk_sub (by omega), nI_add, eh_up _ hw, eh_up _ hw, upd_comm _ _ _ (show 10 * (j + 1) + w ≠ 10 * j + w by omega)]
  refine (hab.upd (10 * j + w) (v := q + p - min (q + p) 40) (by omega) rfl ?_).upd (10 * (j + 1) + w) (v := min (q + p) 40) (by omega) rfl ?_
  · exact congrArg nI (by omega)
  · exact congrArg nI (by omega)
end
