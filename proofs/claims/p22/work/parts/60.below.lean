def F_L_below (v : Int32) (n : Nat) : Int32 :=
  (nI (bl v n))
set_option maxHeartbeats 4000000 in
set_option maxRecDepth 100000 in
theorem k_L_below (l : Launch) (D : va_G) (cy : Nat → ClassId) (sz : Nat) (v : Int32) (n : Nat) (h0 : 0 < n) (hn31 : n < 2 ^ 31) : MTa l D cy yL_below wsL_below 0 0 0 0 [] sz [.int v, .int (nI n)] (fun A => QiT D cy (fun (t : Int32) => t) (fun (_ : Int32) => []) (F_L_below v n) A) := by
  refine ofWT (cc := cL_below) (maxL := 2) (ret := (some .int)) (own := RL) (by decide) rfl (Nat.le_of_ble_eq_true rfl) rfl ?_
  intro p e s m args below meth c A ls hx hb hr hml hts hown hlocks hin hN hK hP hD hA hl
  have hS : va_S A s.heap s.heap [] := va_S.rf
  have hl : lv_has ls 2 [(0, .int v), (1, .int (nI n))] := hl
  generalize hQ : MQ below ((fun A => QiT D cy (fun (t : Int32) => t) (fun (_ : Int32) => []) (F_L_below v n) A) A) args s 0 0 A = Q
  refine lv_iload_n hx hb dL_below_0 rfl (lv_at hl 0 rfl) ?_
  refine lv_ldc (v := 2147483647) hx hb hown (hts (.constant RL 7 (2147483647)) (List.mem_of_getElem? (i := 1) rfl)) dL_below_1 ?_
  refine lv_iand hx hb dL_below_3 ?_
  refine lv_iload_n hx hb dL_below_4 rfl (lv_at hl 1 rfl) ?_
  refine lv_irem hx hb dL_below_5 (nI_ne0 h0 hn31) ?_
  refine lv_iv (y := rmd (v &&& 2147483647) (nI n)) rfl ?_
  refine lv_iv (y := (nI (bl v n))) (bl_eq v h0 hn31) ?_
  subst hQ
  exact en_i (tv := (nI (bl v n))) hx hb hr hlocks (by rw [F_L_below]) rfl hK (by first | with_reducible exact hP | exact hP) (by first | with_reducible exact hD | exact hD) hS (Nat.le_refl _) (Nat.le_refl _) dL_below_6

abbrev AU : Type := (Nat) × (Nat) × (Nat) × (Nat) × (Nat → Nat) × (Nat → Nat) × (Nat → Int32) × (Nat → Int32) × (Nat → Int32) × (Nat → Int32) × (Nat → Int32) × (Nat → Int32) × (Nat → Int32) × (Nat → Nat → Int32) × (Nat → Nat → Int32) × (Nat → Nat → Int32)
abbrev AWL (cy : Nat → ClassId) (qx qi qh qc qr qw qb qg qR qW qT qS qJ qY ql qiz qhz qcz qrz qwz qbz qgz qRz qWz qTz qSz qJz qYz qlz qm ho ro go : Nat) (ah ar ag : Nat → Nat) (Y : va_W) (R G n : Nat) (nf : Int32) (fc : Nat → Int32) (fw : Nat → Int32) (fb : Nat → Int32) (gR : Nat → Int32) (gW : Nat → Int32) (gT : Nat → Int32) (gS : Nat → Int32) (gJ : Nat → Int32) (gY : Nat → Int32) (fl : Nat → Int32) (ntz : Int32) (nfz : Int32) (fcz : Nat → Int32) (nrz : Int32) (fwz : Nat → Int32) (fbz : Nat → Int32) (ngz : Int32) (gRz : Nat → Int32) (gWz : Nat → Int32) (gTz : Nat → Int32) (gSz : Nat → Int32) (gJz : Nat → Int32) (gYz : Nat → Int32) (flz : Nat → Int32) (sf : Int32) (sh : Nat → Nat → Int32) (sr : Nat → Nat → Int32) (sg : Nat → Nat → Int32) : va_W :=
  (((CWX cy qx qi qh qc qr qw qb qg qR qW qT qS qJ qY ql qiz qhz qcz qrz qwz qbz qgz qRz qWz qTz qSz qJz qYz qlz (nI n) nf fc (nI R) fw fb (nI G) gR gW gT gS gJ gY fl ntz nfz fcz nrz fwz fbz ngz gRz gWz gTz gSz gJz gYz flz) ++ [(qm, .inr (5, [.ref ho, .ref ro, .ref go, .int (nI n), .int sf])), (ho, .inl (cy 3, 10, .inr (.inr (.inr (.inr (pf 10 ah)))))), (ro, .inl (cy 3, R, .inr (.inr (.inr (.inr (pf R ar)))))), (go, .inl (cy 3, G, .inr (.inr (.inr (.inr (pf G ag))))))]) ++ (rws cy 10 5 ah sh ++ (rws cy R 2 ar sr ++ (rws cy G 6 ag sg ++ Y))))
abbrev ActW (cy : Nat → ClassId) (qx qi qh qc qr qw qb qg qR qW qT qS qJ qY ql qiz qhz qcz qrz qwz qbz qgz qRz qWz qTz qSz qJz qYz qlz qm ho : Nat) (ah : Nat → Nat) (Y : va_W) (n : Nat) (nf : Int32) (gT : Nat → Int32) (gS : Nat → Int32) (fl : Nat → Int32) (ntz : Int32) (nfz : Int32) (fcz : Nat → Int32) (nrz : Int32) (fwz : Nat → Int32) (fbz : Nat → Int32) (ngz : Int32) (gRz : Nat → Int32) (gWz : Nat → Int32) (gTz : Nat → Int32) (gSz : Nat → Int32) (gJz : Nat → Int32) (gYz : Nat → Int32) (flz : Nat → Int32) (sf : Int32) (u : AU) : va_W := (AWL cy qx qi qh qc qr qw qb qg qR qW qT qS qJ qY ql qiz qhz qcz qrz qwz qbz qgz qRz qWz qTz qSz qJz qYz qlz qm ho u.2.2.1 u.2.2.2.1 ah u.2.2.2.2.1 u.2.2.2.2.2.1 Y u.1 u.2.1 n nf u.2.2.2.2.2.2.1 u.2.2.2.2.2.2.2.1 u.2.2.2.2.2.2.2.2.1 u.2.2.2.2.2.2.2.2.2.1 u.2.2.2.2.2.2.2.2.2.2.1 gT gS u.2.2.2.2.2.2.2.2.2.2.2.1 u.2.2.2.2.2.2.2.2.2.2.2.2.1 fl ntz nfz fcz nrz fwz fbz ngz gRz gWz gTz gSz gJz gYz flz sf u.2.2.2.2.2.2.2.2.2.2.2.2.2.1 u.2.2.2.2.2.2.2.2.2.2.2.2.2.2.1 u.2.2.2.2.2.2.2.2.2.2.2.2.2.2.2)
abbrev ActP (n : Nat) (nf : Int32) (gT gS : Nat → Int32) (sf : Int32) (r : Int32) (u : AU) : Prop := r = 1 ∧ Rel u.1 u.2.1 n (nI n) nf u.2.2.2.2.2.2.1 (nI u.1) u.2.2.2.2.2.2.2.1 u.2.2.2.2.2.2.2.2.1 (nI u.2.1) u.2.2.2.2.2.2.2.2.2.1 u.2.2.2.2.2.2.2.2.2.2.1 gT gS u.2.2.2.2.2.2.2.2.2.2.2.1 u.2.2.2.2.2.2.2.2.2.2.2.2.1 (EH u.2.2.2.2.2.2.2.2.2.2.2.2.2.1) (EW u.2.2.2.2.2.2.2.2.2.2.2.2.2.2.1) (EL u.2.2.2.2.2.2.2.2.2.2.2.2.2.2.1) (EP u.2.2.2.2.2.2.2.2.2.2.2.2.2.2.2) (EN (nI n) sf)
/-- what holds all along a run of act -/
def AC (p : Program) (s : State) (m : MethodId) (args : Array Value) (meth : Method) (c : Code) (D : va_G) (cy : Nat → ClassId) (A : Nat → Prop) : Prop :=
  p.tables.exec = Jvm.exec ∧ c.code = cL_act ∧ meth.sig.returnType = some .boolean ∧ c.maxLocals = 13 ∧ (∀ w ∈ wsL_act, w.before args s = true) ∧ s.vm.findClass RL = some m.cls ∧ meth.locks = false ∧ NWp s ∧ va_K D vwCl (TY cy) s ∧ ∀ q, s.heap.size ≤ q → A q
/-- a row of its own goes behind the rows of the second kind -/
theorem va_P.tuck2 {D : va_G} {cl : List vw_C} {F a b Z : va_W} {q : Nat × va_E} {H : Heap} (h : va_P D cl ((F ++ [q]) ++ (a ++ (b ++ Z))) H) : va_P D cl (F ++ (a ++ ((b ++ [q]) ++ Z))) H := by
  have e : (F ++ [q]) ++ (a ++ (b ++ Z)) = ((F ++ [q]) ++ (a ++ b)) ++ Z := by simp only [List.append_assoc]
  rw [e] at h
  have h1 : va_P D cl ((F ++ (a ++ b)) ++ [q]) H := va_P.swap h.fst
  refine fun k x hk => ?_
  rcases List.mem_append.mp (List.mem_of_getElem? (show ((F ++ (a ++ b) ++ [q]) ++ Z)[k]? = some x by simpa only [List.append_assoc] using hk)) with hm | hm
  · obtain ⟨j, hj⟩ := List.getElem?_of_mem hm
    exact h1 j x hj
  · obtain ⟨j, hj⟩ := List.getElem?_of_mem hm
    exact h (((F ++ [q]) ++ (a ++ b)).length + j) x (by rw [List.getElem?_append_right (by omega), Nat.add_sub_cancel_left]; exact hj)
theorem va_D.tuck2 {A : Nat → Prop} {F a b Z : va_W} {q : Nat × va_E} (h : va_D A ((F ++ [q]) ++ (a ++ (b ++ Z)))) : va_D A (F ++ (a ++ ((b ++ [q]) ++ Z))) := by
  have e : (F ++ [q]) ++ (a ++ (b ++ Z)) = (F ++ [q]) ++ ((a ++ b) ++ Z) := by simp only [List.append_assoc]
  rw [e] at h
  have h0 : va_D A ((F ++ [q]) ++ (Z ++ (a ++ b))) := by
    have h9 : va_D A (((F ++ [q]) ++ (a ++ b)) ++ Z) := by simpa only [List.append_assoc] using h
    simpa only [List.append_assoc] using va_D.swap h9
  have h1 : va_D A ((F ++ [q]) ++ (Z ++ (a ++ b))) := h0
  have h2 : va_D A ((F ++ (Z ++ (a ++ b))) ++ [q]) := va_D.swap h1
  have h3 : va_D A ((F ++ Z) ++ ((a ++ b) ++ [q])) := by simpa only [List.append_assoc] using h2
  have h4 : va_D A ((F ++ ((a ++ b) ++ [q])) ++ Z) := va_D.swap h3
  simpa only [List.append_assoc] using h4
