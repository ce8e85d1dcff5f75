-- the script's own cells: a call that is handed the array
abbrev PcX (D : va_G) (cy : Nat → ClassId) (ws : va_W) (sz b L : Nat) (xs : Nat → Int32) (av : List Value) : Array Value → State → Prop := va_Pc av (fun U => U.heap.size = sz ∧ NWp U ∧ va_P D vwCl ws U.heap ∧ va_K D vwCl (TY cy) U ∧ va_D (fun q => q ≠ b) ws ∧ va_X b L xs U U.heap ∧ b < sz)
theorem PcX_blind {D : va_G} {cy : Nat → ClassId} {ws : va_W} {sz b L : Nat} {xs : Nat → Int32} {av : List Value} : FrameBlind (PcX D cy ws sz b L xs av) := by
  intro a U g mk q
  obtain ⟨q0, q1, qN, qP, qK, qD, qX, qb⟩ := q
  exact ⟨q0, q1, NWp.same (u := U) (U := U.calling g mk a) rfl qN, qP, va_K.moved (u := U) (U := U.calling g mk a) (Vm.Alike.refl U.vm) qK, qD, va_X.moved (u := U) (U := U.calling g mk a) (Vm.Alike.refl U.vm) qX, qb⟩
theorem ofXT {l : Launch} {D : va_G} {cy : Nat → ClassId} {y : MethodName} {wl wl' : List Cond} {fr mc ms lo : Nat} {ws : va_W} {sz b L : Nat} {xs : Nat → Int32} {av : List Value} {Qf : (Nat → Prop) → Array Value → State → Outcome → State → Prop} {cc : ByteArray} {maxL : Nat} {ret : Option FieldType} {own : String}
    (hy : plainName y.cls = true) (hw : wl = Cond.code y cc maxL ret :: wl') (hav : (lg_sl av).length ≤ maxL) (ho : y.cls = own)
    (body : ∀ (p : Program) (e : Env) (s : State) (m : MethodId) (args : Array Value) (below : List Frame) (meth : Method) (c : Code) (A : Nat → Prop) (ls : Array Slot), p.tables.exec = Jvm.exec → c.code = cc → meth.sig.returnType = ret → c.maxLocals = maxL → (∀ w ∈ wl, w.before args s = true) → s.vm.findClass own = some m.cls → meth.locks = false → meth.name = y.name → NWp s → va_K D vwCl (TY cy) s → va_P D vwCl ws s.heap → va_D A ws → (∀ q, s.heap.size ≤ q → A q) → va_X b L xs s s.heap → b < s.heap.size → ¬ A b → lv_has ls maxL (lv_args 0 av) →
      W p l e (RM fr mc ms lo) s m args below meth c s.heap [] 0 0 (MQ below (Qf A) args s mc ms A) (F0 m 0 ls [])) : Met l y wl (RM fr mc ms lo) (PcX D cy ws sz b L xs av) (Qf (va_A ws sz)) mc ms (va_A ws sz) := by
  refine Met.ofW (cc := cc) (maxL := maxL) (ret := ret) hy hw ?_
  intro p e s m args below meth c s₁ B hml hv
  obtain ⟨rfl, hsz, hN, hP, hK, hD0, hX, hb⟩ := hv
  subst hsz
  subst ho
  have hD1 : va_D (fun _ => True) ws := hD0.weaken (fun _ _ _ _ => trivial)
  have hD := hD1.self (sz := s.heap.size)
  have hl := lv_entry av (n := maxL) hav
  rw [lg_entry_eq]
  refine body p e s m _ below meth c _ _ B.exec B.bytes B.returns hml (atoms_spec (ws := wl) B.pre) (findClass_of_methodNamed B.named) B.notSynchronized (name_of_methodNamed B.named B.method).1 hN hK hP hD (fun q h => Or.inr h) hX hb (fun q => ?_) hl
  rcases q with ⟨k, e9, q⟩ | q
  · exact hD0.2 k _ q rfl
  · omega
section
variable {p : Program} {l : Launch} {e : Env} {R : Room} {s : State} {m : MethodId} {args : Array Value} {below : List Frame} {meth : Method} {c : Code} {H : Heap} {locs : List Loc} {cells slots : Nat} {Q : State → Prop} {D : va_G} {cy : Nat → ClassId} {A : Nat → Prop} {ls : Array Slot} {pc mc ms : Nat} {cc : ByteArray} {b L : Nat} {xs : Nat → Int32}
theorem pre_x {X cx pl : va_W} {av : List Value} (hN : NWp s) (hK : va_K D vwCl (TY cy) s) (hP : va_P D vwCl (X ++ pl) H) (hD : va_D A (X ++ pl)) (hS : va_S A s.heap H locs) (hX : va_X b L xs s s.heap) (hbl : b < s.heap.size) (hbA : ¬ A b) (isC : List Nat) (hC : isC.map (fun i => (X ++ pl)[i]?) = cx.map some) (hn : va_nd isC = true) : ∀ U : State, U.heap = H → s.WarmedH U.vm → PcX D cy cx H.size b L xs av av.toArray U := by
  intro U hU hW
  refine ⟨rfl, by rw [hU], NWp.warm hW hN, by rw [hU]; exact hP.sub isC (mapSome hC), va_K.moved hW.alike hK, (hD.sub isC hn hC).weaken (fun k q _ hA => ?_), ?_, Nat.lt_of_lt_of_le hbl hS.1⟩
  · intro e9
    exact hbA (e9 ▸ hA)
  · rw [hU]
    exact va_X.moved (u := s) hW.alike (hX.kept (hS.2.1 b hbl hbA))
theorem k_L_cell (l : Launch) (D : va_G) (cy : Nat → ClassId) (sz b L : Nat) (xs : Nat → Int32) (k : Nat) (hk : k < 2 ^ 31) (hL : L < 2 ^ 31) : Met l yL_cell wsL_cell (RM 0 0 0 0) (PcX D cy [] sz b L xs [.ref b, .int (nI k)]) (QiE D cy (fun _ (_ : Unit) => True) (fun _ => []) (va_A [] sz)) 0 0 (va_A [] sz) := by
  refine ofXT (Qf := fun A => QiE D cy (fun _ (_ : Unit) => True) (fun _ => []) A) (cc := cL_cell) (maxL := 2) (ret := (some .int)) (own := RL) (by decide) rfl (Nat.le_of_ble_eq_true rfl) rfl ?_
  intro p e s m args below meth c A ls hx hb hr hml hts hown hlocks hin hN hK hP hD hA hX hbl hbA hl
  have hS : va_S A s.heap s.heap [] := va_S.rf
  have hl : lv_has ls 2 [(0, .ref b), (1, .int (nI k))] := hl
  refine lv_iload_n hx hb dL_cell_0 rfl (lv_at hl 1 rfl) ?_
  refine lv_aload_n hx hb dL_cell_1 rfl (lv_at hl 0 rfl) ?_
  refine va_slen hx hb hX hbl hbA hS dL_cell_2 ?_
  refine lv_icmp_ge (tgt := 12) hx hb dL_cell_3 (by decide) (fun c3 => ?_) (fun c3 => ?_)
  · refine lv_ldc (v := 790386105) hx hb hown (hts (.constant RL 8 (790386105)) (List.mem_of_getElem? (i := 1) rfl)) dL_cell_12 ?_
    refine lv_iload_n hx hb dL_cell_14 rfl (lv_at hl 1 rfl) ?_
    refine lv_iconst (v := 3) hx hb dL_cell_15 (by decide) ?_
    refine lv_iadd hx hb dL_cell_16 ?_
    refine lv_imul hx hb dL_cell_17 ?_
    exact en_iE () hx hb hr hlocks trivial hK hP hD hS (Nat.le_refl _) (Nat.le_refl _) dL_cell_18
  · have hkL : k < L := Decidable.byContradiction fun q => c3 (nI_le (by omega) hk)
    refine lv_aload_n hx hb dL_cell_6 rfl (lv_at hl 0 rfl) ?_
    refine lv_iload_n hx hb dL_cell_7 rfl (lv_at hl 1 rfl) ?_
    refine va_sld hx hb hX hbl hbA hS (vp_in_nI hkL hL) dL_cell_8 ?_
    refine lv_goto (tgt := 18) hx hb dL_cell_9 (by decide) ?_
    exact en_iE () hx hb hr hlocks trivial hK hP hD hS (Nat.le_refl _) (Nat.le_refl _) dL_cell_18
end
