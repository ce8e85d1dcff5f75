-- doubles: the quotient of two ints, the second of them not 0, is a number; methods that answer one
theorem dq_asm {s : Bool} {e t : Nat} (he : e ≤ 2047) (ht : t < 2 ^ 52) (h : e = 2047 → t = 0) :
    (UInt64.ofNat (FP.Core.assemble FP.Core.b64 s e t)).toNat = FP.Core.assemble FP.Core.b64 s e t ∧ vf_n64 (UInt64.ofNat (FP.Core.assemble FP.Core.b64 s e t)) ∧ FP.Core.decode FP.Core.b64 (FP.Core.assemble FP.Core.b64 s e t) ≠ .nan := by
  have hb : s.toNat ≤ 1 := by cases s <;> decide
  have hn : FP.Core.assemble FP.Core.b64 s e t = (s.toNat * 2048 + e) * 4503599627370496 + t := rfl
  rw [hn]
  have ht' : t < 4503599627370496 := ht
  have h1 : (UInt64.ofNat ((s.toNat * 2048 + e) * 4503599627370496 + t)).toNat = (s.toNat * 2048 + e) * 4503599627370496 + t := by
    rw [UInt64.toNat_ofNat']
    exact Nat.mod_eq_of_lt (by omega)
  refine ⟨h1, ?_, ?_⟩
  · unfold vf_n64
    rw [UInt64.le_iff_toNat_le, UInt64.toNat_and, h1]
    rw [show (0x7fffffffffffffff : UInt64).toNat = 2 ^ 63 - 1 from rfl, show (0x7ff0000000000000 : UInt64).toNat = 9218868437227405312 from rfl, Nat.and_two_pow_sub_one_eq_mod]
    have h63 : (2 : Nat) ^ 63 = 9223372036854775808 := rfl
    rw [h63]
    by_cases hq : e = 2047
    · have := h hq
      omega
    · omega
  · have fT : FP.Core.fieldT FP.Core.b64 ((s.toNat * 2048 + e) * 4503599627370496 + t) = t := by
      show ((s.toNat * 2048 + e) * 4503599627370496 + t) % 4503599627370496 = t
      omega
    have fE : FP.Core.fieldE FP.Core.b64 ((s.toNat * 2048 + e) * 4503599627370496 + t) = e := by
      show ((s.toNat * 2048 + e) * 4503599627370496 + t) / 4503599627370496 % 2048 = e
      omega
    unfold FP.Core.decode
    rw [fE, fT]
    split
    · rename_i hq
      rw [h hq, if_pos rfl]
      exact fun hh => by cases hh
    · split
      · exact fun hh => by cases hh
      · exact fun hh => by cases hh
def dq_ok (d : FP.Core.Datum) : Prop := ∃ (s : Bool) (e t : Nat), FP.Core.encode FP.Core.b64 d = FP.Core.assemble FP.Core.b64 s e t ∧ e ≤ 2047 ∧ t < 2 ^ 52 ∧ (e = 2047 → t = 0)
theorem dq_fin {s : Bool} {c : Nat} {q : Int} (hc : c < 2 ^ 53) (hq : q ≤ 971) : dq_ok (.fin s c q) := by
  unfold dq_ok FP.Core.encode
  have e1 : FP.Core.b64.tails = 4503599627370496 := rfl
  have e2 : FP.Core.b64.qmin = -1074 := rfl
  dsimp only
  rw [e1, e2]
  by_cases h : c < 4503599627370496
  · rw [if_pos h]
    exact ⟨s, 0, c, rfl, by decide, h, fun h => by cases h⟩
  · rw [if_neg h]
    have hc' : c < 9007199254740992 := hc
    exact ⟨s, (q - -1074).toNat + 1, c - 4503599627370496, rfl, by omega, (by show c - 4503599627370496 < 4503599627370496; omega), fun h => by omega⟩
theorem dq_inf {s : Bool} : dq_ok (.inf s) := ⟨s, 2047, 0, rfl, by decide, by decide, fun _ => rfl⟩
theorem dq_bound {s : Bool} {c : Nat} {q : Int} (hc : c < 2 ^ 53) : dq_ok (FP.Core.bound FP.Core.b64 s c q) := by
  unfold FP.Core.bound
  rw [show FP.Core.b64.qmax = 971 from rfl]
  split
  · rename_i h
    exact dq_fin hc h
  · exact dq_inf
theorem dq_ratio {s : Bool} {a b : Nat} {e : Int} : dq_ok (FP.Core.roundRatio FP.Core.b64 s a b e) := by
  unfold FP.Core.roundRatio
  split
  · exact dq_fin (by decide) (by decide)
  · unfold FP.Core.roundAt FP.Core.settle
    rw [show FP.Core.b64.p = 53 from rfl]
    split
    · rename_i h
      exact dq_bound h
    · exact dq_bound (by decide)
theorem dq_bits {d : FP.Core.Datum} (h : dq_ok d) : vf_n64 (UInt64.ofNat (FP.Core.encode FP.Core.b64 d)) ∧ FP.Core.decode FP.Core.b64 (UInt64.ofNat (FP.Core.encode FP.Core.b64 d)).toNat ≠ .nan := by
  obtain ⟨s, e, t, h1, h2, h3, h4⟩ := h
  rw [h1]
  obtain ⟨a1, a2, a3⟩ := dq_asm (s := s) h2 h3 h4
  exact ⟨a2, by rw [a1]; exact a3⟩
theorem dq_i2d (a : Int32) : FP.Core.decode FP.Core.b64 (FP.i2d a).toNat ≠ .nan := (dq_bits (d := FP.Core.round FP.Core.b64 (FP.Core.ofInt a.toInt)) dq_ratio).2
theorem dq_quot {x y : FP.Core.Datum} (hx : x ≠ .nan) {t : Bool} {d : Nat} {r : Int} (hy : y = .fin t d r) (hd : d ≠ 0) : dq_ok (FP.Core.quotient FP.Core.b64 x y) := by
  subst hy
  cases x with
  | nan => exact absurd rfl hx
  | inf s => exact dq_inf
  | fin s c q =>
    show dq_ok (if d = 0 then (if c = 0 then .nan else .inf (s != t)) else FP.Core.roundRatio FP.Core.b64 (s != t) c d (q - r))
    rw [if_neg hd]
    exact dq_ratio
def dq_pos (d : FP.Core.Datum) : Bool := match d with | .fin _ c _ => !(c == 0) | _ => false
theorem dq_small {n : Nat} (h1 : 1 ≤ n) (h2 : n ≤ 12) : dq_pos (FP.Core.decode FP.Core.b64 (FP.i2d (nI n)).toNat) = true := by
  rcases (show n = 1 ∨ n = 2 ∨ n = 3 ∨ n = 4 ∨ n = 5 ∨ n = 6 ∨ n = 7 ∨ n = 8 ∨ n = 9 ∨ n = 10 ∨ n = 11 ∨ n = 12 by omega) with rfl | rfl | rfl | rfl | rfl | rfl | rfl | rfl | rfl | rfl | rfl | rfl <;> decide +kernel
theorem dq_div (a : Int32) {n : Nat} (h1 : 1 ≤ n) (h2 : n ≤ 12) : vf_n64 (FP.ddiv (FP.i2d a) (FP.i2d (nI n))) ∧ FP.Core.decode FP.Core.b64 (FP.ddiv (FP.i2d a) (FP.i2d (nI n))).toNat ≠ .nan := by
  have hs := dq_small h1 h2
  generalize hy : FP.Core.decode FP.Core.b64 (FP.i2d (nI n)).toNat = y at hs
  cases y with
  | nan => cases hs
  | inf s => cases hs
  | fin t d r =>
    have hd : d ≠ 0 := fun h => by subst h; cases hs
    exact dq_bits (dq_quot (dq_i2d a) hy hd)
theorem dq_self {x : UInt64} (h : FP.Core.decode FP.Core.b64 x.toNat ≠ .nan) : FP.dcmp x x = some .eq := by
  show FP.Core.order (FP.Core.decode FP.Core.b64 x.toNat) (FP.Core.decode FP.Core.b64 x.toNat) = some .eq
  generalize FP.Core.decode FP.Core.b64 x.toNat = d at h ⊢
  cases d with
  | nan => exact absurd rfl h
  | inf s => cases s <;> rfl
  | fin s c q =>
    show some (compare (FP.Core.signed s (FP.Core.inUnits c q (min q q))) (FP.Core.signed s (FP.Core.inUnits c q (min q q)))) = some .eq
    generalize FP.Core.signed s (FP.Core.inUnits c q (min q q)) = z
    simp [compare, compareOfLessAndEq]
theorem pos_of {n : Nat} (h : ¬ nI n = 0) : 1 ≤ n := by
  rcases Nat.eq_zero_or_pos n with h0 | h0
  · exact absurd (by rw [h0]; rfl) h
  · exact h0
abbrev QdT (D : va_G) (cy : Nat → ClassId) {τ : Type} (rf : τ → UInt64) (wf : τ → va_W) (F : τ) (A : Nat → Prop) : Array Value → State → Outcome → State → Prop := va_Qd (fun (r : UInt64) (_ : Unit) => r = rf F) (fun _ t => BW D cy A (wf F) t) A
section
variable {p : Program} {l : Launch} {e : Env} {R : Room} {s : State} {m : MethodId} {args : Array Value} {below : List Frame} {meth : Method} {c : Code} {H : Heap} {locs : List Loc} {cells slots : Nat} {Q : State → Prop} {D : va_G} {cy : Nat → ClassId} {A : Nat → Prop} {H0 : Heap} {ls : Array Slot} {pc mc ms : Nat} {cc : ByteArray}
theorem en_d {τ : Type} {rf : τ → UInt64} {wf : τ → va_W} {F tv : τ} {v : UInt64} (hx : p.tables.exec = Jvm.exec) (hb : c.code = cc) (hr : meth.sig.returnType = some .double) (hlocks : meth.locks = false) (hE : F = tv) (hv : v = rf tv) (hK : va_K D vwCl (TY cy) s) (hP : va_P D vwCl (wf tv) H) (hD : va_D A (wf tv)) (hS : va_S A s.heap H locs) (hc : cells ≤ mc) (hs : slots ≤ ms) (hdg : decode cc pc = .ok (.dreturn, 1)) :
    W p l e R s m args below meth c H locs cells slots (MQ below (QdT D cy rf wf F A) args s mc ms A) (F0 m pc ls [.double v]) := by
  subst hE; subst hv
  refine W.widen hc hs ?_
  exact W.dret hx hb hr (fun t ht hW => ⟨⟨_, (), rfl, rfl, by rw [ht]; exact hP, va_K.moved hW.alike hK, hD⟩, hS.F ht⟩) hS.2.2 hdg hlocks
theorem cl_d {τ : Type} {rf : τ → UInt64} {wf : τ → va_W} {F : τ} {ws wc wr w2 : va_W} {st0 rest : List Value} {a : Array Value} (hr : va_Run p l e R s m args below meth c H locs cells slots mc ms (F0 m pc ls st0) rest (QdT D cy rf wf F (va_A wc H.size) a) (va_A wc H.size)) (hP : va_P D vwCl ws H) (hD : va_D A ws) (hS : va_S A H0 H locs) (hA : ∀ q, H0.size ≤ q → A q) (isC isR isP : List Nat) (hC : isC.map (fun i => ws[i]?) = wc.map some) (hR : isR.map (fun i => ws[i]?) = wr.map some) (hn : va_nd isR = true) (hdis : ∀ i ∈ isR, i ∉ isC) (hp : isP.map (fun i => (wr ++ wf F)[i]?) = w2.map some) (hpn : va_nd isP = true)
    (kk : ∀ (H1 : Heap) (locs1 : List Loc), va_P D vwCl w2 H1 → va_D A w2 → va_S A H0 H1 locs1 → W p l e R s m args below meth c H1 locs1 (cells + mc) (slots + ms) Q (F0 m (pc + 3) ls (.double (rf F) :: rest))) : W p l e R s m args below meth c H locs cells slots Q (F0 m pc ls st0) := by
  have hFc := va_free hD hS hA isC hC
  refine va_calld hr hS (fun q _ h => hFc q h) hFc (fun r u t H1 locs1 ht hvm hw hB hz1 hk1 hS => ?_)
  obtain ⟨hP1, hK1, hD1⟩ := hB
  rw [ht] at hP1
  obtain ⟨hP2, hD2⟩ := va_join hP hD isC isR hC hR hn hdis hk1 hFc hP1 hD1
  have hw : r = rf F := hw
  subst hw
  exact kk H1 locs1 (hP2.sub isP (mapSome hp)) (hD2.sub isP hpn hp) hS
end
