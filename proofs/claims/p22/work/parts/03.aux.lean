-- numbers as the walks write them
def mn (x y : Int32) : Int32 := if y < x then y else x
def ab (x : Int32) : Int32 := if 0 ≤ x then x else 0 - x
def rmd (x y : Int32) : Int32 := x - x / y * y
def itd {σ : Type} (f : Nat → σ → σ) : Nat → σ → σ
  | 0, v => v
  | n + 1, v => itd f n (f n v)
theorem itd_step {σ : Type} {f : Nat → σ → σ} {n : Nat} {v v' F : σ} (h : f n v = v') (hE : itd f (n + 1) v = F) : itd f n v' = F := by subst h; exact hE
section
variable {p : Program} {l : Launch} {e : Env} {R : Room} {s : State} {m : MethodId} {args : Array Value} {below : List Frame} {meth : Method} {c : Code} {H : Heap} {locs : List Loc} {cells slots : Nat} {Q : State → Prop} {D : va_G} {cy : Nat → ClassId} {A : Nat → Prop} {H0 : Heap} {ls : Array Slot} {pc : Nat} {cc : ByteArray} {rest : List Value}
theorem lv_iv {x y : Int32} (h : x = y) (k : W p l e R s m args below meth c H locs cells slots Q (F0 m pc ls (.int y :: rest))) : W p l e R s m args below meth c H locs cells slots Q (F0 m pc ls (.int x :: rest)) := by subst h; exact k
theorem lv_tv {x y : Int64} (h : x = y) (k : W p l e R s m args below meth c H locs cells slots Q (F0 m pc ls (.long y :: rest))) : W p l e R s m args below meth c H locs cells slots Q (F0 m pc ls (.long x :: rest)) := by subst h; exact k
theorem cpy_n {ws : va_W} {a a0 n0 n1 sp dp n index : Nat} {f g : Nat → Int32} {own : String} (hx : p.tables.exec = Jvm.exec) (hb : c.code = cc) (hml : c.maxLocals = ls.size) (hown : s.vm.findClass own = some m.cls) (hlink : (Cond.methodLink own index arraycopyName).before args s = true) (hnat : (Cond.native arraycopyName).before args s = true) (hstat : (Cond.static arraycopyName).before args s = true) (hini : (Cond.initialized "java/lang/System").before args s = true)
    (hK : va_K D vwCl (TY cy) s) (hP : va_P D vwCl ws H) (hD : va_D A ws) (hS : va_S A H0 H locs) (q0 q1 : Nat) (ha0 : ws[q0]? = some (a0, .inl (cy 0, n0, .inl f))) (ha1 : ws[q1]? = some (a, .inl (cy 0, n1, .inl g))) (h4 : sp + n ≤ n0) (h5 : dp + n ≤ n1) (hs : n0 < 2 ^ 31 ∧ n1 < 2 ^ 31)
    (hframes : 1 ≤ R.frames) (hlocals : (rest.map fun v => v.category).sum + (nativeFrameWords "java/lang/System" "arraycopy" 5 + 11) ≤ R.locals) (hdg : decode cc pc = .ok (.invokestatic index, 3))
    (kk : ∀ (H1 : Heap) (locs1 : List Loc), va_P D vwCl (ws.set q1 (a, .inl (cy 0, n1, .inl (va_cpy f g sp dp n)))) H1 → va_D A (ws.set q1 (a, .inl (cy 0, n1, .inl (va_cpy f g sp dp n)))) → va_S A H0 H1 locs1 → W p l e R s m args below meth c H1 locs1 cells slots Q (F0 m (pc + 3) ls rest)) : W p l e R s m args below meth c H locs cells slots Q (F0 m pc ls (.int (nI n) :: .int (nI dp) :: .ref a :: .int (nI sp) :: .ref a0 :: rest)) := by
  have e1 : (nI sp).toNatClampNeg = sp := nI_clamp (by omega)
  have e2 : (nI dp).toNatClampNeg = dp := nI_clamp (by omega)
  have e3 : (nI n).toNatClampNeg = n := nI_clamp (by omega)
  refine va_copyi hx hb hml hown hlink hnat hstat hini hK hP hD hS q0 q1 0 0 ha0 ha1 rfl rfl rfl (nI_pos (by omega)) (nI_pos (by omega)) (nI_pos (by omega)) (by rw [e1, e3]; exact h4) (by rw [e2, e3]; exact h5) (fun i _ => rfl) hframes hlocals hdg (fun H1 locs1 h1 h2 h3 => ?_)
  rw [e1, e2, e3] at h1 h2
  exact kk H1 locs1 h1 h2 h3
end
-- facts about numbers
theorem i_lt (a b : Int32) : a < b ↔ a.toInt < b.toInt := Int32.lt_iff_toInt_lt
theorem i_le (a b : Int32) : a ≤ b ↔ a.toInt ≤ b.toInt := Int32.le_iff_toInt_le
theorem i_eq (a b : Int32) : a = b ↔ a.toInt = b.toInt := Int32.toInt_inj.symm
theorem i_rng (x : Int32) : -2147483648 ≤ x.toInt ∧ x.toInt < 2147483648 := by
  have h1 := Int32.le_toInt x
  have h2 := Int32.toInt_lt x
  omega
theorem i_bmod {z : Int} (h1 : -2147483648 ≤ z) (h2 : z < 2147483648) : z.bmod (2 ^ 32) = z := by
  rw [Int.bmod_def]
  have e : ((2 ^ 32 : Nat) : Int) = 4294967296 := rfl
  rw [e]
  omega
theorem i_add {x y : Int32} (h1 : -2147483648 ≤ x.toInt + y.toInt) (h2 : x.toInt + y.toInt < 2147483648) : (x + y).toInt = x.toInt + y.toInt := by rw [Int32.toInt_add]; exact i_bmod h1 h2
theorem i_sub {x y : Int32} (h1 : -2147483648 ≤ x.toInt - y.toInt) (h2 : x.toInt - y.toInt < 2147483648) : (x - y).toInt = x.toInt - y.toInt := by rw [Int32.toInt_sub]; exact i_bmod h1 h2
theorem i_mul {x y : Int32} (h1 : -2147483648 ≤ x.toInt * y.toInt) (h2 : x.toInt * y.toInt < 2147483648) : (x * y).toInt = x.toInt * y.toInt := by rw [Int32.toInt_mul]; exact i_bmod h1 h2
/-- a number of 0 to n - 1 is some nI k -/
theorem i_nat {x : Int32} {n : Nat} (h1 : ¬ x < 0) (h2 : x.toInt < n) : ∃ k : Nat, k < n ∧ x = nI k := by
  obtain ⟨k, hk, rfl⟩ := nI_of h1
  rw [nI_toInt hk] at h2
  exact ⟨k, by omega, rfl⟩
theorem i_nat_lt {k : Nat} {x : Int32} {n : Nat} (hk : k < 2 ^ 31) (hx : x = nI n) (hn : n < 2 ^ 31) (h : nI k < x) : k < n := by subst hx; exact (nI_ltI hk hn).mp h
theorem inside_of {x y : Int32} (c1 : ¬ x < 0) (c7 : ¬ 10 ≤ x) (c11 : ¬ y < 0) (c16 : ¬ 5 ≤ y) : ∃ a b : Nat, a < 10 ∧ b < 5 ∧ x = nI a ∧ y = nI b := by
  obtain ⟨a, ha, rfl⟩ := i_nat (n := 10) c1 (by rw [i_le] at c7; have : (10 : Int32).toInt = 10 := rfl; omega)
  obtain ⟨b, hb, rfl⟩ := i_nat (n := 5) c11 (by rw [i_le] at c16; have : (5 : Int32).toInt = 5 := rfl; omega)
  exact ⟨a, b, ha, hb, rfl, rfl⟩
theorem ten_mul (a b : Nat) : (10 : Int32) * nI b + nI a = nI (10 * b + a) := by rw [show (10 : Int32) = nI 10 from rfl, pk_mul, nI_add]
theorem it_invN {σ : Type} {P : σ → Prop} {f : Nat → σ → σ} : ∀ (n k : Nat) (v : σ), (∀ (j : Nat) (w : σ), k ≤ j → j < k + n → P w → P (f j w)) → P v → P (it f n k v)
  | 0, _, _, _, hv => hv
  | n + 1, k, v, h, hv => it_invN n (k + 1) (f k v) (fun j w h1 h2 => h j w (by omega) (by omega)) (h k v (by omega) (by omega) hv)
theorem it_inv {σ : Type} {P : σ → Prop} {f : Nat → σ → σ} (h : ∀ (j : Nat) (w : σ), P w → P (f j w)) (n k : Nat) (v : σ) (hv : P v) : P (it f n k v) := it_invN n k v (fun j w _ _ => h j w) hv
/-- two loops side by side -/
theorem it_sim {σ τ : Type} {P : Nat → σ → τ → Prop} {f : Nat → σ → σ} {g : Nat → τ → τ} : ∀ (n k : Nat) (v : σ) (w : τ), (∀ (j : Nat) (a : σ) (b : τ), k ≤ j → j < k + n → P j a b → P (j + 1) (f j a) (g j b)) → P k v w → P (k + n) (it f n k v) (it g n k w)
  | 0, _, _, _, _, hv => hv
  | n + 1, k, v, w, h, hv => by
    have := it_sim (P := P) n (k + 1) (f k v) (g k w) (fun j a b h1 h2 => h j a b (by omega) (by omega)) (h k v w (by omega) (by omega) hv)
    rw [show k + (n + 1) = k + 1 + n by omega]
    exact this
theorem itd_sim {σ τ : Type} {P : Nat → σ → τ → Prop} {f : Nat → σ → σ} {g : Nat → τ → τ} : ∀ (n : Nat) (v : σ) (w : τ), (∀ (j : Nat) (a : σ) (b : τ), j < n → P (j + 1) a b → P j (f j a) (g j b)) → P n v w → P 0 (itd f n v) (itd g n w)
  | 0, _, _, _, hv => hv
  | n + 1, v, w, h, hv => itd_sim (P := P) n (f n v) (g n w) (fun j a b h1 => h j a b (by omega)) (h n v w (by omega) hv)
