set_option maxHeartbeats 4000000 in
set_option maxRecDepth 100000 in
theorem k_X5_all (l : Launch) (D : va_G) (cy : Nat → ClassId) (sz : Nat) (o : Nat) (a : Nat → Nat) (Y : va_W) (c9 : Nat → Nat → Int32) : MTa l D cy yX5_all wsX5_all 1 11 60 40 ([(o, .inl (cy 3, 10, .inr (.inr (.inr (.inr (pf 10 a))))))] ++ (rws cy 10 5 a c9 ++ Y)) sz [.ref o] (fun A => QrT D cy (fun (u : Nat → Nat) (q : Nat) => [(o, .inl (cy 3, 10, .inr (.inr (.inr (.inr (pf 10 a)))))), (q, .inl (cy 3, 10, .inr (.inr (.inr (.inr (pf 10 u))))))] ++ ((rws cy 10 5 a c9 ++ Y) ++ rws cy 10 5 u c9)) A) := by
  refine ofWT (cc := cX5_all) (maxL := 3) (ret := some (.array (.array .int))) (own := RX5) (by decide) rfl (Nat.le_of_ble_eq_true rfl) rfl ?_
  intro p e s m args below meth c A ls hx hb hr hml hts hown hlocks hin hN hK hP hD hA hl
  have hS : va_S A s.heap s.heap [] := va_S.rf
  have hl : lv_has ls 3 [(0, .ref o)] := hl
  refine lv_aload_n hx hb dX5_all_0 rfl (lv_at hl 0 rfl) ?_
  refine va_alen (v := 10) hx hb hK hP 0 3 rfl rfl rfl dX5_all_1 ?_
  refine newr (n := 10) hx hb hown (hts (.classLink RX5 14 "[I") (List.mem_of_getElem? (i := 1) rfl)) hN hK hP hD hS hA (by decide) (Nat.le_of_ble_eq_true rfl) (Nat.le_of_ble_eq_true rfl) dX5_all_2 (fun q H hP hD hS => ?_)
  have hP : va_P D vwCl (([(o, .inl (cy 3, 10, .inr (.inr (.inr (.inr (pf 10 a)))))), (q, .inl (cy 3, 10, .inr (.inr (.inr (.inr (pf 0 a))))))] ++ (rws cy 10 5 a c9 ++ Y)) ++ rws cy 0 5 a c9) H := by
    rw [pf_0]
    exact (va_P.swap (c := [_]) hP).app (fun k q hk => by simp [rws] at hk)
  have hD : va_D A (([(o, .inl (cy 3, 10, .inr (.inr (.inr (.inr (pf 10 a)))))), (q, .inl (cy 3, 10, .inr (.inr (.inr (.inr (pf 0 a))))))] ++ (rws cy 10 5 a c9 ++ Y)) ++ rws cy 0 5 a c9) := by
    rw [pf_0, show rws cy 0 5 a c9 = [] from rfl, List.append_nil]
    exact va_D.swap (c := [_]) hD
  refine lv_astore_n (lv' := [(1, .ref q), (0, .ref o)]) hx hb dX5_all_5 rfl hl (by decide) rfl (fun ls hl => ?_)
  refine lv_iconst (v := 0) hx hb dX5_all_6 (by decide) ?_
  refine lv_istore_n (lv' := [(2, .int (nI 0)), (1, .ref q), (0, .ref o)]) hx hb dX5_all_7 rfl hl (by decide) rfl (fun ls hl => ?_)
  have lp : ∀ (n k : Nat) (u : Nat → Nat) (cells slots : Nat) (H : Heap) (locs : List Loc) (ls : Array Slot), k + n = 10 → cells ≤ 1 + k → slots ≤ 10 + 5 * k → va_P D vwCl (([(o, .inl (cy 3, 10, .inr (.inr (.inr (.inr (pf 10 a)))))), (q, .inl (cy 3, 10, .inr (.inr (.inr (.inr (pf k u))))))] ++ (rws cy 10 5 a c9 ++ Y)) ++ rws cy k 5 u c9) H → va_D A (([(o, .inl (cy 3, 10, .inr (.inr (.inr (.inr (pf 10 a)))))), (q, .inl (cy 3, 10, .inr (.inr (.inr (.inr (pf k u))))))] ++ (rws cy 10 5 a c9 ++ Y)) ++ rws cy k 5 u c9) → va_S A s.heap H locs → lv_has ls 3 [(2, .int (nI k)), (1, .ref q), (0, .ref o)] → W p l e (RM 1 11 60 40) s m args below meth c H locs cells slots (MQ below ((fun A => QrT D cy (fun (u : Nat → Nat) (q : Nat) => [(o, .inl (cy 3, 10, .inr (.inr (.inr (.inr (pf 10 a)))))), (q, .inl (cy 3, 10, .inr (.inr (.inr (.inr (pf 10 u))))))] ++ ((rws cy 10 5 a c9 ++ Y) ++ rws cy 10 5 u c9)) A) A) args s 11 60 A) (F0 m 8 ls []) := by
    intro n
    induction n with
    | zero =>
      intro k u cells slots H locs ls hk hc hs hP hD hS hl
      have hk : k = 10 := by omega
      subst hk
      refine lv_iload_n hx hb dX5_all_8 rfl (lv_at hl 0 rfl) ?_
      refine lv_aload_n hx hb dX5_all_9 rfl (lv_at hl 2 rfl) ?_
      refine va_alen (v := 10) hx hb hK hP 0 3 rfl rfl rfl dX5_all_10 ?_
      refine lv_icmp_ge (tgt := 32) hx hb dX5_all_11 (by decide) (fun c8 => ?_) (fun c8 => ?_)
      rotate_left
      · exact absurd (nI_le (a := 10) (b := 10) (Nat.le_refl _) (by decide)) c8
      refine lv_aload_n hx hb dX5_all_32 rfl (lv_at hl 1 rfl) ?_
      have hP : va_P D vwCl ([(o, .inl (cy 3, 10, .inr (.inr (.inr (.inr (pf 10 a)))))), (q, .inl (cy 3, 10, .inr (.inr (.inr (.inr (pf 10 u))))))] ++ ((rws cy 10 5 a c9 ++ Y) ++ rws cy 10 5 u c9)) H := by rw [List.append_assoc] at hP; exact hP
      have hD : va_D A ([(o, .inl (cy 3, 10, .inr (.inr (.inr (.inr (pf 10 a)))))), (q, .inl (cy 3, 10, .inr (.inr (.inr (.inr (pf 10 u))))))] ++ ((rws cy 10 5 a c9 ++ Y) ++ rws cy 10 5 u c9)) := by rw [List.append_assoc] at hD; exact hD
      exact en_r (w1 := fun (u : Nat → Nat) (q : Nat) => [(o, .inl (cy 3, 10, .inr (.inr (.inr (.inr (pf 10 a)))))), (q, .inl (cy 3, 10, .inr (.inr (.inr (.inr (pf 10 u))))))] ++ ((rws cy 10 5 a c9 ++ Y) ++ rws cy 10 5 u c9)) (mc := 11) (ms := 60) u hx hb hr hlocks hK hP hD hS (show cells ≤ 11 by omega) (show slots ≤ 60 by omega) dX5_all_33
    | succ n ih =>
      intro k u cells slots H locs ls hk hc hs hP hD hS hl
      have hk10 : k < 10 := by omega
      refine lv_iload_n hx hb dX5_all_8 rfl (lv_at hl 0 rfl) ?_
      refine lv_aload_n hx hb dX5_all_9 rfl (lv_at hl 2 rfl) ?_
      refine va_alen (v := 10) hx hb hK hP 0 3 rfl rfl rfl dX5_all_10 ?_
      refine lv_icmp_ge (tgt := 32) hx hb dX5_all_11 (by decide) (fun c8 => ?_) (fun c8 => ?_)
      · exact absurd c8 (nI_ge (a := k) (b := 10) hk10 (by decide))
      refine lv_aload_n hx hb dX5_all_14 rfl (lv_at hl 1 rfl) ?_
      refine lv_iload_n hx hb dX5_all_15 rfl (lv_at hl 0 rfl) ?_
      refine lv_aload_n hx hb dX5_all_16 rfl (lv_at hl 2 rfl) ?_
      refine lv_iload_n hx hb dX5_all_17 rfl (lv_at hl 0 rfl) ?_
      refine ald_p (n := 10) (k := k) hx hb hK hP 0 rfl hk10 (by decide) dX5_all_18 ?_
      have hrow : RSl cy (([(o, .inl (cy 3, 10, .inr (.inr (.inr (.inr (pf 10 a)))))), (q, .inl (cy 3, 10, .inr (.inr (.inr (.inr (pf k u))))))] ++ (rws cy 10 5 a c9 ++ Y)) ++ rws cy k 5 u c9) (a k) 5 (c9 k) _ := RSl.left _ (RSl.app _ (RSl.left _ (RSl.row hk10)))
      obtain ⟨j, hj, -⟩ := hrow
      refine cln_r (rest := [.int (nI k), .ref q]) hx hb (hml.trans hl.1.symm) hown (hts (.methodLink RX5 22 ⟨"[I", "clone", "()Ljava/lang/Object;"⟩) (List.mem_of_getElem? (i := 2) rfl)) (hts (.sameMethod "[I" "java/lang/Object" "clone" "()Ljava/lang/Object;") (List.mem_of_getElem? (i := 3) rfl)) (hts (.native ⟨"java/lang/Object", "clone", "()Ljava/lang/Object;"⟩) (List.mem_of_getElem? (i := 4) rfl)) (hts (.instanceMethod ⟨"java/lang/Object", "clone", "()Ljava/lang/Object;"⟩) (List.mem_of_getElem? (i := 5) rfl)) (hts (.selects "[I" ⟨"[I", "clone", "()Ljava/lang/Object;"⟩ ⟨"java/lang/Object", "clone", "()Ljava/lang/Object;"⟩) (List.mem_of_getElem? (i := 6) rfl)) hN hK hP hD hS hA j hj (Nat.le_of_ble_eq_true rfl) (Nat.le_of_ble_eq_true rfl) (show cells + 1 ≤ 11 by omega) (show slots + 5 ≤ 60 by omega) dX5_all_19 (fun q2 H hP hD hS => ?_)
      rw [List.append_assoc, rws_add] at hP hD
      have hrow : RSl cy (([(o, .inl (cy 3, 10, .inr (.inr (.inr (.inr (pf 10 a)))))), (q, .inl (cy 3, 10, .inr (.inr (.inr (.inr (pf k u))))))] ++ (rws cy 10 5 a c9 ++ Y)) ++ rws cy (k + 1) 5 (va_up u k q2) c9) (va_up u k q2 k) 5 (c9 k) _ := RSl.app _ (RSl.row (Nat.lt_succ_self k))
      rw [va_up_self] at hrow
      have hm := hrow.mem
      obtain ⟨j2, hj2, -⟩ := hrow
      refine va_castA hx hb hown (hts (.classLink RX5 14 "[I") (List.mem_of_getElem? (i := 1) rfl)) hP j2 hj2 (fcI hK) dX5_all_22 ?_
      refine ast_p (n := 10) (k := k) hx hb hN hK hP hD hS 1 rfl hm hk10 (by decide) dX5_all_25 (fun H locs hP hD hS => ?_)
      refine lv_iinc (v := nI (k + 1)) (lv' := [(2, .int (nI (k + 1))), (1, .ref q), (0, .ref o)]) hx hb dX5_all_26 hl (k := 0) rfl (nI_1 k) (by decide) rfl (fun ls hl => ?_)
      refine lv_goto (tgt := 8) hx hb dX5_all_29 (by decide) ?_
      exact ih (k + 1) (va_up u k q2) _ _ H locs ls (by omega) (by omega) (by omega) hP hD hS hl
  exact lp 10 0 a _ _ H _ ls rfl (Nat.le_of_ble_eq_true rfl) (Nat.le_of_ble_eq_true rfl) hP hD hS hl

theorem pf_same (k : Nat) (a : Nat → Nat) : pf (k + 1) (va_up a k (a k)) = pf (k + 1) a := funext fun j => by
  unfold pf va_up
  by_cases h : j = k
  · subst h
    rw [if_pos rfl]
  · rw [if_neg h]

set_option maxHeartbeats 4000000 in
set_option maxRecDepth 100000 in
theorem k_X5_more (l : Launch) (D : va_G) (cy : Nat → ClassId) (sz : Nat) (o r : Nat) (a : Nat → Nat) (P1 P2 : va_W) (n len : Nat) (c9 : Nat → Nat → Int32) (f : Nat → Int32) (hn : n ≤ 12) : MTa l D cy yX5_more wsX5_more 0 1 13 0 ([(o, .inl (cy 3, n, .inr (.inr (.inr (.inr (pf n a)))))), (r, .inl (cy 0, len, .inl f))] ++ (P1 ++ (rws cy n len a c9 ++ P2))) sz [.ref o, .ref r] (fun A => QrT D cy (fun (_ : Unit) (q : Nat) => [(o, .inl (cy 3, n, .inr (.inr (.inr (.inr (pf n a)))))), (r, .inl (cy 0, len, .inl f)), (q, .inl (cy 3, n + 1, .inr (.inr (.inr (.inr (pf (n + 1) (va_up a n r)))))))] ++ (P1 ++ (rws cy n len a c9 ++ P2))) A) := by
  refine ofWT (cc := cX5_more) (maxL := 4) (ret := some (.array (.array .int))) (own := RX5) (by decide) rfl (Nat.le_of_ble_eq_true rfl) rfl ?_
  intro p e s m args below meth c A ls hx hb hr hml hts hown hlocks hin hN hK hP hD hA hl
  have hS : va_S A s.heap s.heap [] := va_S.rf
  have hl : lv_has ls 4 [(0, .ref o), (1, .ref r)] := hl
  refine lv_aload_n hx hb dX5_more_0 rfl (lv_at hl 0 rfl) ?_
  refine va_alen (v := nI n) hx hb hK hP 0 3 rfl rfl rfl dX5_more_1 ?_
  refine lv_iconst (v := 1) hx hb dX5_more_2 (by decide) ?_
  refine lv_iadd hx hb dX5_more_3 ?_
  refine lv_iv (y := nI (n + 1)) (nI_1 n) ?_
  refine newr (n := n + 1) hx hb hown (hts (.classLink RX5 14 "[I") (List.mem_of_getElem? (i := 1) rfl)) hN hK hP hD hS hA (by omega) (Nat.le_of_ble_eq_true rfl) (show 0 + (n + 1) ≤ 13 by omega) dX5_more_4 (fun q H hP hD hS => ?_)
  have hP : va_P D vwCl ([(o, .inl (cy 3, n, .inr (.inr (.inr (.inr (pf n a)))))), (r, .inl (cy 0, len, .inl f)), (q, .inl (cy 3, n + 1, .inr (.inr (.inr (.inr (pf 0 a))))))] ++ (P1 ++ (rws cy n len a c9 ++ P2))) H := by
    rw [pf_0]
    exact va_P.swap (c := [_]) hP
  have hD : va_D A ([(o, .inl (cy 3, n, .inr (.inr (.inr (.inr (pf n a)))))), (r, .inl (cy 0, len, .inl f)), (q, .inl (cy 3, n + 1, .inr (.inr (.inr (.inr (pf 0 a))))))] ++ (P1 ++ (rws cy n len a c9 ++ P2))) := by
    rw [pf_0]
    exact va_D.swap (c := [_]) hD
  refine lv_astore_n (lv' := [(2, .ref q), (0, .ref o), (1, .ref r)]) hx hb dX5_more_7 rfl hl (by decide) rfl (fun ls hl => ?_)
  refine lv_iconst (v := 0) hx hb dX5_more_8 (by decide) ?_
  refine lv_istore_n (lv' := [(3, .int (nI 0)), (2, .ref q), (0, .ref o), (1, .ref r)]) hx hb dX5_more_9 rfl hl (by decide) rfl (fun ls hl => ?_)
  have lp : ∀ (n9 k : Nat) (H : Heap) (locs : List Loc) (ls : Array Slot), k + n9 = n → va_P D vwCl ([(o, .inl (cy 3, n, .inr (.inr (.inr (.inr (pf n a)))))), (r, .inl (cy 0, len, .inl f)), (q, .inl (cy 3, n + 1, .inr (.inr (.inr (.inr (pf k a))))))] ++ (P1 ++ (rws cy n len a c9 ++ P2))) H → va_D A ([(o, .inl (cy 3, n, .inr (.inr (.inr (.inr (pf n a)))))), (r, .inl (cy 0, len, .inl f)), (q, .inl (cy 3, n + 1, .inr (.inr (.inr (.inr (pf k a))))))] ++ (P1 ++ (rws cy n len a c9 ++ P2))) → va_S A s.heap H locs → lv_has ls 4 [(3, .int (nI k)), (2, .ref q), (0, .ref o), (1, .ref r)] → W p l e (RM 0 1 13 0) s m args below meth c H locs (0 + 1) (0 + (n + 1)) (MQ below ((fun A => QrT D cy (fun (_ : Unit) (q : Nat) => [(o, .inl (cy 3, n, .inr (.inr (.inr (.inr (pf n a)))))), (r, .inl (cy 0, len, .inl f)), (q, .inl (cy 3, n + 1, .inr (.inr (.inr (.inr (pf (n + 1) (va_up a n r)))))))] ++ (P1 ++ (rws cy n len a c9 ++ P2))) A) A) args s 1 13 A) (F0 m 10 ls []) := by
    intro n9
    induction n9 with
    | zero =>
      intro k H locs ls hk hP hD hS hl
      have hk : n = k := by omega
      subst hk
      refine lv_iload_n hx hb dX5_more_10 rfl (lv_at hl 0 rfl) ?_
      refine lv_aload_n hx hb dX5_more_11 rfl (lv_at hl 2 rfl) ?_
      refine va_alen (v := nI n) hx hb hK hP 0 3 rfl rfl rfl dX5_more_12 ?_
      refine lv_icmp_ge (tgt := 28) hx hb dX5_more_13 (by decide) (fun c8 => ?_) (fun c8 => ?_)
      rotate_left
      · exact absurd (nI_le (a := n) (b := n) (Nat.le_refl _) (by omega)) c8
      refine lv_aload_n hx hb dX5_more_28 rfl (lv_at hl 1 rfl) ?_
      refine lv_aload_n hx hb dX5_more_29 rfl (lv_at hl 2 rfl) ?_
      refine va_alen (v := nI n) hx hb hK hP 0 3 rfl rfl rfl dX5_more_30 ?_
      refine lv_aload_n hx hb dX5_more_31 rfl (lv_at hl 3 rfl) ?_
      refine ast_p (n := n + 1) (k := n) hx hb hN hK hP hD hS 2 rfl ⟨1, len, f, rfl⟩ (Nat.lt_succ_self n) (by omega) dX5_more_32 (fun H locs hP hD hS => ?_)
      refine lv_aload_n hx hb dX5_more_33 rfl (lv_at hl 1 rfl) ?_
      exact en_r (w1 := fun (_ : Unit) (q : Nat) => [(o, .inl (cy 3, n, .inr (.inr (.inr (.inr (pf n a)))))), (r, .inl (cy 0, len, .inl f)), (q, .inl (cy 3, n + 1, .inr (.inr (.inr (.inr (pf (n + 1) (va_up a n r)))))))] ++ (P1 ++ (rws cy n len a c9 ++ P2))) (mc := 1) (ms := 13) () hx hb hr hlocks hK hP hD hS (show 0 + 1 ≤ 1 by decide) (show 0 + (n + 1) ≤ 13 by omega) dX5_more_34
    | succ n9 ih =>
      intro k H locs ls hk hP hD hS hl
      have hkn : k < n := by omega
      refine lv_iload_n hx hb dX5_more_10 rfl (lv_at hl 0 rfl) ?_
      refine lv_aload_n hx hb dX5_more_11 rfl (lv_at hl 2 rfl) ?_
      refine va_alen (v := nI n) hx hb hK hP 0 3 rfl rfl rfl dX5_more_12 ?_
      refine lv_icmp_ge (tgt := 28) hx hb dX5_more_13 (by decide) (fun c8 => ?_) (fun c8 => ?_)
      · exact absurd c8 (nI_ge (a := k) (b := n) hkn (by omega))
      refine lv_aload_n hx hb dX5_more_16 rfl (lv_at hl 1 rfl) ?_
      refine lv_iload_n hx hb dX5_more_17 rfl (lv_at hl 0 rfl) ?_
      refine lv_aload_n hx hb dX5_more_18 rfl (lv_at hl 2 rfl) ?_
      refine lv_iload_n hx hb dX5_more_19 rfl (lv_at hl 0 rfl) ?_
      refine ald_p (n := n) (k := k) hx hb hK hP 0 rfl hkn (by omega) dX5_more_20 ?_
      have hm := (show RSl cy ([(o, .inl (cy 3, n, .inr (.inr (.inr (.inr (pf n a)))))), (r, .inl (cy 0, len, .inl f)), (q, .inl (cy 3, n + 1, .inr (.inr (.inr (.inr (pf k a))))))] ++ (P1 ++ (rws cy n len a c9 ++ P2))) (a k) len (c9 k) _ from RSl.app _ (RSl.app _ (RSl.left _ (RSl.row hkn)))).mem
      refine ast_p (n := n + 1) (k := k) hx hb hN hK hP hD hS 2 rfl hm (by omega) (by omega) dX5_more_21 (fun H locs hP hD hS => ?_)
      rw [pf_same] at hP hD
      refine lv_iinc (v := nI (k + 1)) (lv' := [(3, .int (nI (k + 1))), (2, .ref q), (0, .ref o), (1, .ref r)]) hx hb dX5_more_22 hl (k := 0) rfl (nI_1 k) (by decide) rfl (fun ls hl => ?_)
      refine lv_goto (tgt := 10) hx hb dX5_more_25 (by decide) ?_
      exact ih (k + 1) H locs ls (by omega) hP hD hS hl
  exact lp n 0 H _ ls (Nat.zero_add n) hP hD hS hl

set_option maxHeartbeats 4000000 in
set_option maxRecDepth 100000 in
theorem k_X5_init (l : Launch) (D : va_G) (cy : Nat → ClassId) (sz : Nat) (qm : Nat) : MTa l D cy yX5_init wsX5_init 1 13 60 12 [(qm, .inr (5, [.null, .null, .null, .int 0, .int 0]))] sz [.ref qm] (fun A => QeT D cy (fun (x : (Nat → Nat) × Nat × Nat × Nat) => [(qm, .inr (5, [.ref x.2.1, .ref x.2.2.1, .ref x.2.2.2, .int 0, .int 0])), (x.2.1, .inl (cy 3, 10, .inr (.inr (.inr (.inr (pf 10 x.1)))))), (x.2.2.1, .inl (cy 3, 0, .inr (.inr (.inr (.inr (pf 0 x.1)))))), (x.2.2.2, .inl (cy 3, 0, .inr (.inr (.inr (.inr (pf 0 x.1))))))] ++ (rws cy 10 5 x.1 (fun _ _ => 0))) A) := by
  refine ofWT (cc := cX5_init) (maxL := 1) (ret := none) (own := RX5) (by decide) rfl (Nat.le_of_ble_eq_true rfl) rfl ?_
  intro p e s m args below meth c A ls hx hb hr hml hts hown hlocks hin hN hK hP hD hA hl
  have hS : va_S A s.heap s.heap [] := va_S.rf
  have hl : lv_has ls 1 [(0, .ref qm)] := hl
  have hinX5 : ∀ w ∈ u_ws RX5 TX5 5, w ∈ wsX5_init := (fun w h => List.mem_cons_of_mem _ (List.mem_append_right _ h))
  refine lv_aload_n hx hb dX5_init_0 rfl (lv_at hl 0 rfl) ?_
  refine W.objInit hx hb hown (hts (.methodLink RX5 1 objectInit) (List.mem_of_getElem? (i := 1) rfl)) (hts (.instanceMethod objectInit) (List.mem_of_getElem? (i := 2) rfl)) (hts (.code objectInit ⟨#[0xb1]⟩ 1 none) (List.mem_of_getElem? (i := 3) rfl)) rfl (by rw [hml]; exact hl.1) rfl dX5_init_1 (Nat.le_of_ble_eq_true rfl) (Nat.le_of_ble_eq_true rfl) ?_
  refine W.eq (g2 := F0 m 4 ls []) rfl ?_
  refine lv_aload_n hx hb dX5_init_4 rfl (lv_at hl 0 rfl) ?_
  refine lv_bipush (v := 10) hx hb dX5_init_5 (by decide) ?_
  refine lv_iconst (v := 5) hx hb dX5_init_7 (by decide) ?_
  refine newmm (N := 10) (K := 5) hx hb hown (hts (.classLink RX5 7 "[[I") (List.mem_of_getElem? (i := 4) rfl)) (hts (.arrayClass .int) (List.mem_of_getElem? (i := 5) rfl)) hN hK hP hD hS hA (by decide) (by decide) (Nat.le_of_ble_eq_true rfl) (Nat.le_of_ble_eq_true rfl) dX5_init_8 (fun q1 u H hP hD hS => ?_)
  have hP : va_P D vwCl ([(qm, .inr (5, [.null, .null, .null, .int 0, .int 0])), (q1, .inl (cy 3, 10, .inr (.inr (.inr (.inr (pf 10 u))))))] ++ (rws cy 10 5 u (fun _ _ => 0))) H := hP
  have hD : va_D A ([(qm, .inr (5, [.null, .null, .null, .int 0, .int 0])), (q1, .inl (cy 3, 10, .inr (.inr (.inr (.inr (pf 10 u))))))] ++ (rws cy 10 5 u (fun _ _ => 0))) := hD
  refine va_put (D := D) (ci := 5) (v := .ref q1) (ty := .array (.array .int)) (C := RX5) (T := TX5) (N := 5) hx hb hts hinX5 tyX5 tyX5_ok nmX5 hown hK hP hD hS 0 rfl rfl 0 (by decide) (hts (.fieldLink RX5 9 "FireflyInnLaw$Sim" "hedge" "[[I") (List.mem_of_getElem? (i := 6) rfl)) (fun _ h9 => h9) rfl (by decide +kernel) rfl rfl (Nat.le_of_ble_eq_true rfl) dX5_init_12 (fun H locs hP hD hS => ?_)
  refine lv_aload_n hx hb dX5_init_15 rfl (lv_at hl 0 rfl) ?_
  refine lv_iconst (v := 0) hx hb dX5_init_16 (by decide) ?_
  refine newr (n := 0) hx hb hown (hts (.classLink RX5 14 "[I") (List.mem_of_getElem? (i := 7) rfl)) hN hK hP hD hS hA (by decide) (Nat.le_of_ble_eq_true rfl) (Nat.le_of_ble_eq_true rfl) dX5_init_17 (fun q2 H hP hD hS => ?_)
  have hP : va_P D vwCl ([(qm, .inr (5, [.ref q1, .null, .null, .int 0, .int 0])), (q1, .inl (cy 3, 10, .inr (.inr (.inr (.inr (pf 10 u)))))), (q2, .inl (cy 3, 0, .inr (.inr (.inr (.inr (pf 0 u))))))] ++ (rws cy 10 5 u (fun _ _ => 0))) H := by rw [pf_0]; exact va_P.swap (a := [_, _]) (c := [_]) hP
  have hD : va_D A ([(qm, .inr (5, [.ref q1, .null, .null, .int 0, .int 0])), (q1, .inl (cy 3, 10, .inr (.inr (.inr (.inr (pf 10 u)))))), (q2, .inl (cy 3, 0, .inr (.inr (.inr (.inr (pf 0 u))))))] ++ (rws cy 10 5 u (fun _ _ => 0))) := by rw [pf_0]; exact va_D.swap (a := [_, _]) (c := [_]) hD
  refine va_put (D := D) (ci := 5) (v := .ref q2) (ty := .array (.array .int)) (C := RX5) (T := TX5) (N := 5) hx hb hts hinX5 tyX5 tyX5_ok nmX5 hown hK hP hD hS 0 rfl rfl 1 (by decide) (hts (.fieldLink RX5 16 "FireflyInnLaw$Sim" "rooms" "[[I") (List.mem_of_getElem? (i := 8) rfl)) (fun _ h9 => h9) rfl (by decide +kernel) rfl rfl (Nat.le_of_ble_eq_true rfl) dX5_init_20 (fun H locs hP hD hS => ?_)
  refine lv_aload_n hx hb dX5_init_23 rfl (lv_at hl 0 rfl) ?_
  refine lv_iconst (v := 0) hx hb dX5_init_24 (by decide) ?_
  refine newr (n := 0) hx hb hown (hts (.classLink RX5 14 "[I") (List.mem_of_getElem? (i := 7) rfl)) hN hK hP hD hS hA (by decide) (Nat.le_of_ble_eq_true rfl) (Nat.le_of_ble_eq_true rfl) dX5_init_25 (fun q3 H hP hD hS => ?_)
  have hP : va_P D vwCl ([(qm, .inr (5, [.ref q1, .ref q2, .null, .int 0, .int 0])), (q1, .inl (cy 3, 10, .inr (.inr (.inr (.inr (pf 10 u)))))), (q2, .inl (cy 3, 0, .inr (.inr (.inr (.inr (pf 0 u)))))), (q3, .inl (cy 3, 0, .inr (.inr (.inr (.inr (pf 0 u))))))] ++ (rws cy 10 5 u (fun _ _ => 0))) H := by rw [pf_0] at hP ⊢; exact va_P.swap (a := [_, _, _]) (c := [_]) hP
  have hD : va_D A ([(qm, .inr (5, [.ref q1, .ref q2, .null, .int 0, .int 0])), (q1, .inl (cy 3, 10, .inr (.inr (.inr (.inr (pf 10 u)))))), (q2, .inl (cy 3, 0, .inr (.inr (.inr (.inr (pf 0 u)))))), (q3, .inl (cy 3, 0, .inr (.inr (.inr (.inr (pf 0 u))))))] ++ (rws cy 10 5 u (fun _ _ => 0))) := by rw [pf_0] at hD ⊢; exact va_D.swap (a := [_, _, _]) (c := [_]) hD
  refine va_put (D := D) (ci := 5) (v := .ref q3) (ty := .array (.array .int)) (C := RX5) (T := TX5) (N := 5) hx hb hts hinX5 tyX5 tyX5_ok nmX5 hown hK hP hD hS 0 rfl rfl 2 (by decide) (hts (.fieldLink RX5 19 "FireflyInnLaw$Sim" "guests" "[[I") (List.mem_of_getElem? (i := 9) rfl)) (fun _ h9 => h9) rfl (by decide +kernel) rfl rfl (Nat.le_of_ble_eq_true rfl) dX5_init_28 (fun H locs hP hD hS => ?_)
  exact en_e (w1 := fun (x : (Nat → Nat) × Nat × Nat × Nat) => [(qm, .inr (5, [.ref x.2.1, .ref x.2.2.1, .ref x.2.2.2, .int 0, .int 0])), (x.2.1, .inl (cy 3, 10, .inr (.inr (.inr (.inr (pf 10 x.1)))))), (x.2.2.1, .inl (cy 3, 0, .inr (.inr (.inr (.inr (pf 0 x.1)))))), (x.2.2.2, .inl (cy 3, 0, .inr (.inr (.inr (.inr (pf 0 x.1))))))] ++ (rws cy 10 5 x.1 (fun _ _ => 0))) (mc := 13) (ms := 60) (u, q1, q2, q3) hx hb hr hlocks hK hP hD hS (show 0 + 1 + 10 + 1 + 1 ≤ 13 by decide) (show 0 + 10 + 10 * 5 + 0 + 0 ≤ 60 by decide) dX5_init_31
