/-! rows of numbers in any number: a world is some cells by place, and behind them rows by their numbers -/
/-- the n first places of a row of rows, filled -/
def pf (n : Nat) (a : Nat → Nat) : Nat → Option Nat := fun j => if j < n then some (a j) else none
/-- n rows of len numbers each, at a 0, a 1 ..; row j holds c j -/
def rws (cy : Nat → ClassId) (n len : Nat) (a : Nat → Nat) (c : Nat → Nat → Int32) : va_W := (List.range n).map (fun j => ((a j, .inl (cy 0, len, .inl (c j))) : Nat × va_E))
/-- one number of one row -/
def up2 (c : Nat → Nat → Int32) (j k : Nat) (v : Int32) : Nat → Nat → Int32 := va_up c j (upd (c j) k v)
theorem up2_s (c : Nat → Nat → Int32) (j k : Nat) (v : Int32) : up2 c j k v j k = v := by unfold up2; rw [va_up_self, pk_us]
theorem up2_j (c : Nat → Nat → Int32) (j k : Nat) (v : Int32) {i w : Nat} (h : i ≠ j) : up2 c j k v i w = c i w := by unfold up2; rw [va_up_ne _ _ h]
theorem up2_k (c : Nat → Nat → Int32) (j k : Nat) (v : Int32) {i w : Nat} (h : w ≠ k) : up2 c j k v i w = c i w := by
  by_cases e : i = j
  · subst e
    unfold up2
    rw [va_up_self, pk_un h]
  · exact up2_j c j k v e
theorem pf_0 (a : Nat → Nat) : pf 0 a = fun _ => none := funext fun j => if_neg (Nat.not_lt_zero j)
theorem pf_up (n : Nat) (a : Nat → Nat) (q : Nat) : va_up (pf n a) n (some q) = pf (n + 1) (va_up a n q) := funext fun j => by
  by_cases h : j = n
  · subst h
    show (if j = j then some q else pf j a j) = (if j < j + 1 then some (va_up a j q j) else none)
    rw [if_pos rfl, if_pos (Nat.lt_succ_self j), va_up_self]
  · show (if j = n then some q else pf n a j) = (if j < n + 1 then some (va_up a n q j) else none)
    rw [if_neg h, va_up_ne _ _ h]
    unfold pf
    by_cases h2 : j < n
    · rw [if_pos h2, if_pos (by omega)]
    · rw [if_neg h2, if_neg (by omega)]
theorem pf_at {n : Nat} {a : Nat → Nat} {k : Nat} (h : k < n) : pf n a k = some (a k) := if_pos h
theorem rws_push {cy : Nat → ClassId} {n len : Nat} {a : Nat → Nat} {c : Nat → Nat → Int32} {q : Nat} {f : Nat → Int32} : rws cy n len a c ++ [((q, .inl (cy 0, len, .inl f)) : Nat × va_E)] = rws cy (n + 1) len (va_up a n q) (va_up c n f) := by
  unfold rws
  rw [List.range_succ, List.map_append, List.map_cons, List.map_nil, va_up_self, va_up_self]
  congr 1
  apply List.map_congr_left
  intro j hj
  have : j ≠ n := Nat.ne_of_lt (List.mem_range.mp hj)
  rw [va_up_ne _ _ this, va_up_ne _ _ this]
theorem rws_congr {cy : Nat → ClassId} {n len : Nat} {a b : Nat → Nat} {c d : Nat → Nat → Int32} (h : ∀ j, j < n → a j = b j ∧ c j = d j) : rws cy n len a c = rws cy n len b d := by
  unfold rws
  apply List.map_congr_left
  intro j hj
  obtain ⟨h1, h2⟩ := h j (List.mem_range.mp hj)
  rw [h1, h2]
theorem rws_add {cy : Nat → ClassId} {n len : Nat} {a : Nat → Nat} {c : Nat → Nat → Int32} {q : Nat} : rws cy n len a c ++ [((q, .inl (cy 0, len, .inl (c n))) : Nat × va_E)] = rws cy (n + 1) len (va_up a n q) c := by
  rw [rws_push]
  refine rws_congr (fun j _ => ⟨rfl, ?_⟩)
  by_cases h : j = n
  · subst h
    exact va_up_self _ _ _
  · exact va_up_ne _ _ h
/-- a row of numbers lies in the world ws, and what ws is when it is written anew -/
def RSl (cy : Nat → ClassId) (ws : va_W) (a len : Nat) (f : Nat → Int32) (w' : (Nat → Int32) → va_W) : Prop := ∃ k, ws[k]? = some (a, .inl (cy 0, len, .inl f)) ∧ ∀ g, ws.set k (a, .inl (cy 0, len, .inl g)) = w' g
theorem RSl.app {cy : Nat → ClassId} {ws : va_W} {a len : Nat} {f : Nat → Int32} {w' : (Nat → Int32) → va_W} (X : va_W) (h : RSl cy ws a len f w') : RSl cy (X ++ ws) a len f (fun g => X ++ w' g) := by
  obtain ⟨k, h1, h2⟩ := h
  refine ⟨X.length + k, ?_, fun g => ?_⟩
  · rw [List.getElem?_append_right (by omega), Nat.add_sub_cancel_left]
    exact h1
  · rw [List.set_append, if_neg (by omega), Nat.add_sub_cancel_left, h2 g]
theorem RSl.left {cy : Nat → ClassId} {ws : va_W} {a len : Nat} {f : Nat → Int32} {w' : (Nat → Int32) → va_W} (Y : va_W) (h : RSl cy ws a len f w') : RSl cy (ws ++ Y) a len f (fun g => w' g ++ Y) := by
  obtain ⟨k, h1, h2⟩ := h
  have hk := (List.getElem?_eq_some_iff.mp h1).1
  refine ⟨k, ?_, fun g => ?_⟩
  · rw [List.getElem?_append_left hk]
    exact h1
  · rw [List.set_append, if_pos hk, h2 g]
theorem RSl.row {cy : Nat → ClassId} {n len : Nat} {a : Nat → Nat} {c : Nat → Nat → Int32} {j : Nat} (hj : j < n) : RSl cy (rws cy n len a c) (a j) len (c j) (fun g => rws cy n len a (va_up c j g)) := by
  refine ⟨j, by unfold rws; rw [List.getElem?_map, List.getElem?_range hj]; rfl, fun g => ?_⟩
  apply List.ext_getElem?
  intro i
  unfold rws
  by_cases hi : i = j
  · subst hi
    rw [List.getElem?_set_self (by rw [List.length_map, List.length_range]; exact hj), List.getElem?_map, List.getElem?_range hj]
    show _ = some ((a i, .inl (cy 0, len, .inl (va_up c i g i))) : Nat × va_E)
    rw [va_up_self]
  · rw [List.getElem?_set_ne (Ne.symm hi), List.getElem?_map, List.getElem?_map]
    by_cases h : i < n
    · rw [List.getElem?_range h]
      show some ((a i, .inl (cy 0, len, .inl (c i))) : Nat × va_E) = some ((a i, .inl (cy 0, len, .inl (va_up c j g i))) : Nat × va_E)
      rw [va_up_ne _ _ hi]
    · rw [List.getElem?_eq_none (by rw [List.length_range]; omega)]
      rfl
theorem RSl.mem {cy : Nat → ClassId} {ws : va_W} {a len : Nat} {f : Nat → Int32} {w' : (Nat → Int32) → va_W} (h : RSl cy ws a len f w') : ∃ (k nv : Nat) (g : Nat → Int32), ws[k]? = some ((a, .inl (cy 0, nv, .inl g)) : Nat × va_E) := ⟨h.choose, len, f, h.choose_spec.1⟩
section
variable {p : Program} {l : Launch} {e : Env} {R : Room} {s : State} {m : MethodId} {args : Array Value} {below : List Frame} {meth : Method} {c : Code} {H : Heap} {locs : List Loc} {cells slots : Nat} {Q : State → Prop} {D : va_G} {cy : Nat → ClassId} {A : Nat → Prop} {H0 : Heap} {ls : Array Slot} {pc mc ms : Nat} {cc : ByteArray} {rest : List Value}
theorem ial_w {ws : va_W} {a : Nat} (hx : p.tables.exec = Jvm.exec) (hb : c.code = cc) (hK : va_K D vwCl (TY cy) s) (hP : va_P D vwCl ws H) {len k : Nat} {f : Nat → Int32} {w' : (Nat → Int32) → va_W} (hr : RSl cy ws a len f w') (hk : k < len) (hn : len < 2 ^ 31) (hdg : decode cc pc = .ok (.iaload, 1)) (kk : W p l e R s m args below meth c H locs cells slots Q (F0 m (pc + 1) ls (.int (f k) :: rest))) : W p l e R s m args below meth c H locs cells slots Q (F0 m pc ls (.int (nI k) :: .ref a :: rest)) := by
  obtain ⟨q, h1, -⟩ := hr
  exact ial_n hx hb hK hP q h1 hk hn hdg kk
theorem ias_w {ws : va_W} {a : Nat} (hx : p.tables.exec = Jvm.exec) (hb : c.code = cc) (hK : va_K D vwCl (TY cy) s) (hP : va_P D vwCl ws H) (hD : va_D A ws) (hS : va_S A H0 H locs) {len k : Nat} {f : Nat → Int32} {x : Int32} {w' : (Nat → Int32) → va_W} (hr : RSl cy ws a len f w') (hk : k < len) (hn : len < 2 ^ 31) (hdg : decode cc pc = .ok (.iastore, 1)) (kk : ∀ (H1 : Heap) (locs1 : List Loc), va_P D vwCl (w' (upd f k x)) H1 → va_D A (w' (upd f k x)) → va_S A H0 H1 locs1 → W p l e R s m args below meth c H1 locs1 cells slots Q (F0 m (pc + 1) ls rest)) : W p l e R s m args below meth c H locs cells slots Q (F0 m pc ls (.int x :: .int (nI k) :: .ref a :: rest)) := by
  obtain ⟨q, h1, h2⟩ := hr
  refine ias_n hx hb hK hP hD hS q h1 hk hn hdg (fun H1 locs1 hP hD hS => ?_)
  rw [h2] at hP hD
  exact kk H1 locs1 hP hD hS
theorem alen_w {ws : va_W} {a : Nat} (hx : p.tables.exec = Jvm.exec) (hb : c.code = cc) (hK : va_K D vwCl (TY cy) s) (hP : va_P D vwCl ws H) {len : Nat} {f : Nat → Int32} {w' : (Nat → Int32) → va_W} (hr : RSl cy ws a len f w') (hdg : decode cc pc = .ok (.arraylength, 1)) (kk : W p l e R s m args below meth c H locs cells slots Q (F0 m (pc + 1) ls (.int (nI len) :: rest))) : W p l e R s m args below meth c H locs cells slots Q (F0 m pc ls (.ref a :: rest)) := by
  obtain ⟨q, h1, -⟩ := hr
  exact va_alen (v := nI len) hx hb hK hP q 0 h1 rfl rfl hdg kk
theorem ald_p {ws : va_W} {a : Nat} (hx : p.tables.exec = Jvm.exec) (hb : c.code = cc) (hK : va_K D vwCl (TY cy) s) (hP : va_P D vwCl ws H) (q0 : Nat) {n : Nat} {ad : Nat → Nat} {k : Nat} (ha : ws[q0]? = some (a, .inl (cy 3, n, .inr (.inr (.inr (.inr (pf n ad))))))) (hk : k < n) (hn : n < 2 ^ 31) (hdg : decode cc pc = .ok (.aaload, 1))
    (kk : W p l e R s m args below meth c H locs cells slots Q (F0 m (pc + 1) ls (.ref (ad k) :: rest))) : W p l e R s m args below meth c H locs cells slots Q (F0 m pc ls (.int (nI k) :: .ref a :: rest)) :=
  ald_r hx hb hK hP q0 ha (nI_clamp (by omega)) (pf_at hk) (vp_in_nI hk hn) hdg kk
theorem ast_p {ws : va_W} {a : Nat} (hx : p.tables.exec = Jvm.exec) (hb : c.code = cc) (hN : NWp s) (hK : va_K D vwCl (TY cy) s) (hP : va_P D vwCl ws H) (hD : va_D A ws) (hS : va_S A H0 H locs) (q0 : Nat) {n v k : Nat} {ad : Nat → Nat} (ha : ws[q0]? = some (a, .inl (cy 3, n, .inr (.inr (.inr (.inr (pf k ad))))))) (hv : ∃ (qv nv : Nat) (g : Nat → Int32), ws[qv]? = some ((v, .inl (cy 0, nv, .inl g)) : Nat × va_E)) (hk : k < n) (hn : n < 2 ^ 31) (hdg : decode cc pc = .ok (.aastore, 1))
    (kk : ∀ (H1 : Heap) (locs1 : List Loc), va_P D vwCl (ws.set q0 (a, .inl (cy 3, n, .inr (.inr (.inr (.inr (pf (k + 1) (va_up ad k v)))))))) H1 → va_D A (ws.set q0 (a, .inl (cy 3, n, .inr (.inr (.inr (.inr (pf (k + 1) (va_up ad k v)))))))) → va_S A H0 H1 locs1 → W p l e R s m args below meth c H1 locs1 cells slots Q (F0 m (pc + 1) ls rest)) : W p l e R s m args below meth c H locs cells slots Q (F0 m pc ls (.ref v :: .int (nI k) :: .ref a :: rest)) := by
  obtain ⟨qv, nv, g, hv⟩ := hv
  refine ast_r (k := k) hx hb hN hK hP hD hS q0 qv ha hv (nI_clamp (by omega)) (vp_in_nI hk hn) hdg (fun H1 locs1 hP hD hS => ?_)
  rw [pf_up] at hP hD
  exact kk H1 locs1 hP hD hS
/-- new int[n][k] -/
theorem newmm {ws : va_W} {own : String} {index N K : Nat} (hx : p.tables.exec = Jvm.exec) (hb : c.code = cc) (hown : s.vm.findClass own = some m.cls) (hclink : (Cond.classLink own index "[[I").before args s = true) (harr : (Cond.arrayClass .int).before args s = true) (hN : NWp s) (hK : va_K D vwCl (TY cy) s) (hP : va_P D vwCl ws H) (hD : va_D A ws) (hS : va_S A H0 H locs) (hA : ∀ q, H0.size ≤ q → A q) (h1 : N ≤ 100) (h2 : K ≤ 100) (hcells : cells + (1 + N) ≤ R.cells) (hslots : slots + (N + N * K) ≤ R.slots) (hdg : decode cc pc = .ok (.multianewarray index 2, 4))
    (kk : ∀ (q : Nat) (r : Nat → Nat) (H1 : Heap), va_P D vwCl ((ws ++ [(q, .inl (cy 3, N, .inr (.inr (.inr (.inr (pf N r))))))]) ++ rws cy N K r (fun _ _ => 0)) H1 → va_D A ((ws ++ [(q, .inl (cy 3, N, .inr (.inr (.inr (.inr (pf N r))))))]) ++ rws cy N K r (fun _ _ => 0)) → va_S A H0 H1 locs → W p l e R s m args below meth c H1 locs (cells + 1 + N) (slots + N + N * K) Q (F0 m (pc + 4) ls (.ref q :: rest))) : W p l e R s m args below meth c H locs cells slots Q (F0 m pc ls (.int (nI K) :: .int (nI N) :: rest)) := by
  have e0 : va_pl [] (fun _ => (.inl (cy 0, 0, .inl (fun _ => 0)) : va_E)) = [] := rfl
  refine va_mna (X := ws) (L := []) (f := fun _ => (.inl (cy 0, 0, .inl (fun _ => 0)) : va_E)) (ty := .int) (cy := cy 0) (z := (K, .inl (fun _ => 0))) hx hb hown (by rw [show "[" ++ (FieldType.array .int).toString = "[[I" by decide +kernel]; exact hclink) (hN.at 13 rfl) harr (by rw [tsA]; exact fcI hK) hK (by rw [e0, List.append_nil]; exact hP) (by rw [e0, List.append_nil]; exact hD) hS hA (nI_pos (by omega)) (nI_pos (by omega)) (nI_clamp (by omega)) (nI_clamp (by omega)) (by omega) (by show K * 4 ≤ _; omega) (by omega) (by decide) (by decide) hcells hslots (fun c9 => ?_) hdg (fun q r cA H1 _ _ hK1 hP1 hD1 hS1 => ?_)
  · rw [vp_cell_i]
    exact arrV_new c9 K _
  · have ec : cA = cy 3 := Option.some.inj ((hK1.2 4 (cA, .array .int) rfl).2.symm.trans (hK.2 3 (cy 3, .array .int) rfl).2)
    subst ec
    have er : va_pl ([] ++ (List.range N).map r) (vr_up (fun _ => (.inl (cy 0, 0, .inl (fun _ => 0)) : va_E)) ((List.range N).map r) (.inl (cy 0, (K, .inl (fun _ => 0))))) = rws cy N K r (fun _ _ => 0) := by
      unfold va_pl rws
      rw [List.nil_append, List.map_map]
      apply List.map_congr_left
      intro j hj
      show (r j, _) = (r j, _)
      rw [vr_up_in (List.mem_map.mpr ⟨j, hj, rfl⟩)]
    rw [er] at hP1 hD1
    exact kk q r H1 hP1 hD1 hS1
-- calls with rows behind the cells: the callee's world has them too (P), or has not (Q)
theorem pre_p {X cx pl : va_W} {av : List Value} (hN : NWp s) (hK : va_K D vwCl (TY cy) s) (hP : va_P D vwCl (X ++ pl) H) (hD : va_D A (X ++ pl)) (isC : List Nat) (hC : isC.map (fun i => X[i]?) = cx.map some) (hn : va_nd isC = true) : ∀ U : State, U.heap = H → s.WarmedH U.vm → PcW D cy (cx ++ pl) H.size av av.toArray U := by
  intro U hU hW
  exact ⟨rfl, by rw [hU], NWp.warm hW hN, by rw [hU]; exact hP.part isC hC, va_K.moved hW.alike hK, (hD.part isC hn hC).weaken (fun _ _ _ _ => trivial)⟩
theorem rcv_p {X cx pl : va_W} {b ci q0 : Nat} {q : vw_C} {fs : List Value} {C : String} (hK : va_K D vwCl (TY cy) s) (hP : va_P D vwCl (X ++ pl) H) (isC : List Nat) (hC : isC.map (fun i => X[i]?) = cx.map some) (hc : vwCl[ci]? = some q) (hq : cx[q0]? = some (b, .inr (ci, fs))) (hcl : q.1 = C) : ∃ cellB : Cell, H[b]? = some cellB ∧ cellB.vm.isStatics = false ∧ s.vm.findClass C = some cellB.cls := by
  subst hcl
  exact va_recv hK (hP.part isC hC) hc (by rw [List.getElem?_append_left (List.getElem?_eq_some_iff.mp hq).1]; exact hq)
section
variable {y : MethodName} {bytes : ByteArray} {maxL nL n index : Nat} {ret : Option FieldType} {wl : List Cond} {rm : Room} {Qc : Array Value → State → Outcome → State → Prop} {free : Addr → Prop} {Ts : List Cond} {own C : String} {b ci q0 : Nat} {As st0 : List Value} {X cx pl : va_W} {q : vw_C} {fs : List Value}
theorem rn_VP (S : CallFix p m c cc nL s args Ts own) (hM : Met l y wl rm (PcW D cy (cx ++ pl) H.size (.ref b :: As)) Qc mc ms free) (cw : CallW R s args own C index y bytes maxL ret wl rm mc ms n) (hN : NWp s) (hK : va_K D vwCl (TY cy) s) (hP : va_P D vwCl (X ++ pl) H) (hD : va_D A (X ++ pl)) (isC : List Nat) (hC : isC.map (fun i => X[i]?) = cx.map some) (hnd : va_nd isC = true) (hc : vwCl[ci]? = some q) (hq : cx[q0]? = some (b, .inr (ci, fs))) (hcl : q.1 = C)
    (hn : As.length = n) (hsize : ls.size = nL) (hstack : st0 = As.reverse ++ .ref b :: rest) (hW : (rest.map fun v => v.category).sum ≤ 8) (hdg : decode cc pc = .ok (.invokevirtual index, 3)) (hf : cells + mc ≤ R.cells ∧ slots + ms ≤ R.slots) :
    va_Run p l e R s m args below meth c H locs cells slots mc ms (F0 m pc ls st0) rest (Qc (Value.ref b :: As).toArray) free :=
  va_runV S hM cw ⟨PcW_blind, rcv_p hK hP isC hC hc hq hcl, pre_p hN hK hP hD isC hC hnd⟩ rfl hn hsize hstack (lv_room hW) hdg hf
theorem rn_SP (S : CallFix p m c cc nL s args Ts own) (hM : Met l y wl rm (PcW D cy (cx ++ pl) H.size As) Qc mc ms free) (cw : CallB R s args own index y bytes maxL ret wl rm mc ms n ∧ (Cond.static y).before args s = true) (hN : NWp s) (hK : va_K D vwCl (TY cy) s) (hP : va_P D vwCl (X ++ pl) H) (hD : va_D A (X ++ pl)) (isC : List Nat) (hC : isC.map (fun i => X[i]?) = cx.map some) (hnd : va_nd isC = true)
    (hn : As.length = n) (hsize : ls.size = nL) (hstack : st0 = As.reverse ++ rest) (hW : (rest.map fun v => v.category).sum ≤ 8) (hdg : decode cc pc = .ok (.invokestatic index, 3)) (hf : cells + mc ≤ R.cells ∧ slots + ms ≤ R.slots) :
    va_Run p l e R s m args below meth c H locs cells slots mc ms (F0 m pc ls st0) rest (Qc As.toArray) free :=
  va_runS S hM cw ⟨PcW_blind, pre_p hN hK hP hD isC hC hnd⟩ rfl hn hsize hstack (lv_room hW) hdg hf
end
section
variable {X cx wr w2 pl : va_W} {st0 : List Value} {a : Array Value}
/-- an int is answered, the world behind is one of some -/
abbrev QiE (D : va_G) (cy : Nat → ClassId) {S : Type} (post : Int32 → S → Prop) (w1 : S → va_W) (A : Nat → Prop) : Array Value → State → Outcome → State → Prop := va_Qi post (fun u t => BW D cy A (w1 u) t) A
theorem cl_iP {S : Type} {post : Int32 → S → Prop} {w1 rx p1 : S → va_W} (hr : va_Run p l e R s m args below meth c H locs cells slots mc ms (F0 m pc ls st0) rest (QiE D cy post w1 (va_A (cx ++ pl) H.size) a) (va_A (cx ++ pl) H.size)) (hP : va_P D vwCl (X ++ pl) H) (hD : va_D A (X ++ pl)) (hS : va_S A H0 H locs) (hA : ∀ q, H0.size ≤ q → A q) (isC isR : List Nat) (hC : isC.map (fun i => X[i]?) = cx.map some) (hR : isR.map (fun i => X[i]?) = wr.map some) (hn : va_nd isR = true) (hdis : ∀ i ∈ isR, i ∉ isC) (hw : ∀ u, w1 u = rx u ++ p1 u)
    (kk : ∀ (r : Int32) (u : S) (H1 : Heap) (locs1 : List Loc), post r u → va_P D vwCl ((wr ++ rx u) ++ p1 u) H1 → va_D A ((wr ++ rx u) ++ p1 u) → va_S A H0 H1 locs1 → W p l e R s m args below meth c H1 locs1 (cells + mc) (slots + ms) Q (F0 m (pc + 3) ls (.int r :: rest))) : W p l e R s m args below meth c H locs cells slots Q (F0 m pc ls st0) := by
  have hFc := va_freeP hD hS hA isC hC
  refine va_calli hr hS (fun q _ h => hFc q h) hFc (fun r u t H1 locs1 ht hvm hw9 hB hz1 hk1 hS => ?_)
  obtain ⟨hP1, hK1, hD1⟩ := hB
  rw [ht, hw u] at hP1
  rw [hw u] at hD1
  obtain ⟨hP2, hD2⟩ := va_joinP hP hD isC isR hC hR hn hdis hk1 hFc hP1 hD1
  exact kk r u H1 locs1 hw9 hP2 hD2 hS
theorem cl_iQ {S : Type} {post : Int32 → S → Prop} {w1 : S → va_W} (hr : va_Run p l e R s m args below meth c H locs cells slots mc ms (F0 m pc ls st0) rest (QiE D cy post w1 (va_A cx H.size) a) (va_A cx H.size)) (hP : va_P D vwCl (X ++ pl) H) (hD : va_D A (X ++ pl)) (hS : va_S A H0 H locs) (hA : ∀ q, H0.size ≤ q → A q) (isC isR : List Nat) (hC0 : isC.map (fun i => (X ++ pl)[i]?) = cx.map some) (hC : isC.map (fun i => X[i]?) = cx.map some) (hR : isR.map (fun i => X[i]?) = wr.map some) (hn : va_nd isR = true) (hdis : ∀ i ∈ isR, i ∉ isC)
    (kk : ∀ (r : Int32) (u : S) (H1 : Heap) (locs1 : List Loc), post r u → va_P D vwCl ((wr ++ w1 u) ++ pl) H1 → va_D A ((wr ++ w1 u) ++ pl) → va_S A H0 H1 locs1 → W p l e R s m args below meth c H1 locs1 (cells + mc) (slots + ms) Q (F0 m (pc + 3) ls (.int r :: rest))) : W p l e R s m args below meth c H locs cells slots Q (F0 m pc ls st0) := by
  have hFc := va_free hD hS hA isC hC0
  refine va_calli hr hS (fun q _ h => hFc q h) hFc (fun r u t H1 locs1 ht hvm hw9 hB hz1 hk1 hS => ?_)
  obtain ⟨hP1, hK1, hD1⟩ := hB
  rw [ht] at hP1
  obtain ⟨hP2, hD2⟩ := va_joinQ hP hD isC isR hC hR hn hdis hk1 hFc hP1 hD1
  exact kk r u H1 locs1 hw9 hP2 hD2 hS
theorem cl_dQ {S : Type} {post : UInt64 → S → Prop} {w1 : S → va_W} (hr : va_Run p l e R s m args below meth c H locs cells slots mc ms (F0 m pc ls st0) rest (va_Qd post (fun u t => BW D cy (va_A cx H.size) (w1 u) t) (va_A cx H.size) a) (va_A cx H.size)) (hP : va_P D vwCl (X ++ pl) H) (hD : va_D A (X ++ pl)) (hS : va_S A H0 H locs) (hA : ∀ q, H0.size ≤ q → A q) (isC isR : List Nat) (hC0 : isC.map (fun i => (X ++ pl)[i]?) = cx.map some) (hC : isC.map (fun i => X[i]?) = cx.map some) (hR : isR.map (fun i => X[i]?) = wr.map some) (hn : va_nd isR = true) (hdis : ∀ i ∈ isR, i ∉ isC)
    (kk : ∀ (r : UInt64) (u : S) (H1 : Heap) (locs1 : List Loc), post r u → va_P D vwCl ((wr ++ w1 u) ++ pl) H1 → va_D A ((wr ++ w1 u) ++ pl) → va_S A H0 H1 locs1 → W p l e R s m args below meth c H1 locs1 (cells + mc) (slots + ms) Q (F0 m (pc + 3) ls (.double r :: rest))) : W p l e R s m args below meth c H locs cells slots Q (F0 m pc ls st0) := by
  have hFc := va_free hD hS hA isC hC0
  refine va_calld hr hS (fun q _ h => hFc q h) hFc (fun r u t H1 locs1 ht hvm hw9 hB hz1 hk1 hS => ?_)
  obtain ⟨hP1, hK1, hD1⟩ := hB
  rw [ht] at hP1
  obtain ⟨hP2, hD2⟩ := va_joinQ hP hD isC isR hC hR hn hdis hk1 hFc hP1 hD1
  exact kk r u H1 locs1 hw9 hP2 hD2 hS
/-- a row of rows is answered -/
theorem cl_rP {S : Type} {w1 rx p1 : S → Nat → va_W} (hr : va_Run p l e R s m args below meth c H locs cells slots mc ms (F0 m pc ls st0) rest (QrT D cy w1 (va_A (cx ++ pl) H.size) a) (va_A (cx ++ pl) H.size)) (hP : va_P D vwCl (X ++ pl) H) (hD : va_D A (X ++ pl)) (hS : va_S A H0 H locs) (hA : ∀ q, H0.size ≤ q → A q) (isC isR : List Nat) (hC : isC.map (fun i => X[i]?) = cx.map some) (hR : isR.map (fun i => X[i]?) = wr.map some) (hn : va_nd isR = true) (hdis : ∀ i ∈ isR, i ∉ isC) (hw : ∀ u a, w1 u a = rx u a ++ p1 u a)
    (kk : ∀ (u : S) (ra : Nat) (H1 : Heap) (locs1 : List Loc), va_P D vwCl ((wr ++ rx u ra) ++ p1 u ra) H1 → va_D A ((wr ++ rx u ra) ++ p1 u ra) → va_S A H0 H1 locs1 → W p l e R s m args below meth c H1 locs1 (cells + mc) (slots + ms) Q (F0 m (pc + 3) ls (.ref ra :: rest))) : W p l e R s m args below meth c H locs cells slots Q (F0 m pc ls st0) := by
  have hFc := va_freeP hD hS hA isC hC
  refine va_callr hr hS (fun q _ h => hFc q h) hFc (fun u ra t H1 locs1 ht hvm hw9 hB hz1 hk1 hS => ?_)
  obtain ⟨hP1, hK1, hD1⟩ := hB
  rw [ht, hw u ra] at hP1
  rw [hw u ra] at hD1
  obtain ⟨hP2, hD2⟩ := va_joinP hP hD isC isR hC hR hn hdis hk1 hFc hP1 hD1
  exact kk u ra H1 locs1 hP2 hD2 hS
end
-- ends with a world of some
theorem en_iE {S : Type} {post : Int32 → S → Prop} {w1 : S → va_W} {v : Int32} (u : S) (hx : p.tables.exec = Jvm.exec) (hb : c.code = cc) (hr : meth.sig.returnType = some .int) (hlocks : meth.locks = false) (hv : post v u) (hK : va_K D vwCl (TY cy) s) (hP : va_P D vwCl (w1 u) H) (hD : va_D A (w1 u)) (hS : va_S A s.heap H locs) (hc : cells ≤ mc) (hs : slots ≤ ms) (hdg : decode cc pc = .ok (.ireturn, 1)) :
    W p l e R s m args below meth c H locs cells slots (MQ below (QiE D cy post w1 A) args s mc ms A) (F0 m pc ls [.int v]) := by
  refine W.widen hc hs ?_
  exact W.iret hx hb hr (fun t ht hW => ⟨⟨_, u, rfl, hv, by rw [ht]; exact hP, va_K.moved hW.alike hK, hD⟩, hS.F ht⟩) hS.2.2 hdg hlocks
theorem en_zE {S : Type} {post : Int32 → S → Prop} {w1 : S → va_W} {v : Int32} (u : S) (hx : p.tables.exec = Jvm.exec) (hb : c.code = cc) (hr : meth.sig.returnType = some .boolean) (hlocks : meth.locks = false) (hv : post v u) (hK : va_K D vwCl (TY cy) s) (hP : va_P D vwCl (w1 u) H) (hD : va_D A (w1 u)) (hS : va_S A s.heap H locs) (hc : cells ≤ mc) (hs : slots ≤ ms) (hn : v = 0 ∨ v = 1) (hdg : decode cc pc = .ok (.ireturn, 1)) :
    W p l e R s m args below meth c H locs cells slots (MQ below (QiE D cy post w1 A) args s mc ms A) (F0 m pc ls [.int v]) := by
  refine W.widen hc hs ?_
  exact W.zret hx hb hr (by rcases hn with h | h <;> rw [h] <;> rfl) (fun t ht hW => ⟨⟨_, u, rfl, hv, by rw [ht]; exact hP, va_K.moved hW.alike hK, hD⟩, hS.F ht⟩) hS.2.2 hdg hlocks
end
-- worlds: parts left out, parts that change places
theorem va_P.fst {D : va_G} {cl : List vw_C} {a b : va_W} {H : Heap} (h : va_P D cl (a ++ b) H) : va_P D cl a H := fun k q hk => h k q (by rw [List.getElem?_append_left (List.getElem?_eq_some_iff.mp hk).1]; exact hk)
theorem va_D.fst {A : Nat → Prop} {a b : va_W} (h : va_D A (a ++ b)) : va_D A a := by
  have e : ∀ (k : Nat) (q : Nat × va_E), a[k]? = some q → (a ++ b)[k]? = some q := fun k q hk => by rw [List.getElem?_append_left (List.getElem?_eq_some_iff.mp hk).1]; exact hk
  exact ⟨fun i j p q hi hj => h.1 i j p q (e i p hi) (e j q hj), fun k q hk => h.2 k q (e k q hk)⟩
/-- the rows behind go ahead of the last part -/
theorem va_P.tuck {D : va_G} {cl : List vw_C} {F a b c Y n : va_W} {H : Heap} (h : va_P D cl (F ++ ((a ++ (b ++ (c ++ Y))) ++ n)) H) : va_P D cl (F ++ (a ++ (b ++ (c ++ (n ++ Y))))) H := by
  have e : F ++ ((a ++ (b ++ (c ++ Y))) ++ n) = (((F ++ a) ++ b ++ c) ++ Y) ++ n := by simp only [List.append_assoc]
  rw [e] at h
  have h2 := h.swap
  simp only [List.append_assoc] at h2 ⊢
  exact h2
theorem va_D.tuck {A : Nat → Prop} {F a b c Y n : va_W} (h : va_D A (F ++ ((a ++ (b ++ (c ++ Y))) ++ n))) : va_D A (F ++ (a ++ (b ++ (c ++ (n ++ Y))))) := by
  have e : F ++ ((a ++ (b ++ (c ++ Y))) ++ n) = (((F ++ a) ++ b ++ c) ++ Y) ++ n := by simp only [List.append_assoc]
  rw [e] at h
  have h2 := h.swap
  simp only [List.append_assoc] at h2 ⊢
  exact h2
/-- the first rows are left out, the last take their place -/
theorem va_P.turn {D : va_G} {cl : List vw_C} {F a b c n Y : va_W} {H : Heap} (h : va_P D cl (F ++ (a ++ (b ++ (c ++ (n ++ Y))))) H) : va_P D cl (F ++ (n ++ (b ++ (c ++ Y)))) H := by
  have e : F ++ (a ++ (b ++ (c ++ (n ++ Y)))) = (F ++ a) ++ (b ++ c ++ n ++ Y) := by simp only [List.append_assoc]
  rw [e] at h
  have h2 : va_P D cl (F ++ (b ++ c ++ n ++ Y)) H := by
    have h3 : va_P D cl ((F ++ (b ++ c ++ n ++ Y)) ++ a) H := va_P.swap h
    exact h3.fst
  have h4 : va_P D cl (((F ++ (b ++ c)) ++ n) ++ Y) H := by simpa only [List.append_assoc] using h2
  have h5 : va_P D cl ((F ++ (b ++ c)) ++ n) H := h4.fst
  have h6 := va_P.swap h5
  have h7 : va_P D cl (((F ++ n) ++ (b ++ c)) ++ Y) H := by
    refine va_P.app h6 ?_
    intro k q hk
    exact h4 (((F ++ (b ++ c)) ++ n).length + k) q (by rw [List.getElem?_append_right (by omega), Nat.add_sub_cancel_left]; exact hk)
  simpa only [List.append_assoc] using h7
theorem va_D.turn {A : Nat → Prop} {F a b c n Y : va_W} (h : va_D A (F ++ (a ++ (b ++ (c ++ (n ++ Y)))))) : va_D A (F ++ (n ++ (b ++ (c ++ Y)))) := by
  have e : F ++ (a ++ (b ++ (c ++ (n ++ Y)))) = (F ++ a) ++ (b ++ c ++ n ++ Y) := by simp only [List.append_assoc]
  rw [e] at h
  have h2 : va_D A (F ++ (b ++ c ++ n ++ Y)) := (va_D.swap h).fst
  have h4 : va_D A ((F ++ (b ++ c)) ++ (n ++ Y)) := by simpa only [List.append_assoc] using h2
  have h5 : va_D A (((F ++ (b ++ c)) ++ Y) ++ n) := by
    have h8 : va_D A (((F ++ (b ++ c)) ++ n) ++ Y) := by simpa only [List.append_assoc] using h4
    exact va_D.swap h8
  have h6 : va_D A ((F ++ ((b ++ c) ++ Y)) ++ n) := by simpa only [List.append_assoc] using h5
  have h7 := va_D.swap h6
  simpa only [List.append_assoc] using h7
