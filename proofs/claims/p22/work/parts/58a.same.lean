def T_X5_isSame_16 (sr : Nat → Nat → Int32) (R : Nat) (k4 : Nat) : Int32 :=
  if (F_X5_lit sr R (nI k4)) = 0 then 0 else 1
def S_X5_isSame_4 (sr : Nat → Nat → Int32) (R : Nat) (k4 : Nat) (v2_4 : Int32) : Int32 :=
  (v2_4 + (T_X5_isSame_16 sr R k4))
def I_X5_isSame_4 (sr : Nat → Nat → Int32) (R : Nat) : Int32 :=
  it (fun (k : Nat) (v : Int32) => S_X5_isSame_4 sr R k v) 10 0 0
def L_X5_isSame_44 : Nat → Nat → Unit
  | 0, _ => ()
  | n44 + 1, k44 =>
    L_X5_isSame_44 n44 (k44 + 1)
def I_X5_isSame_44 : Unit :=
  L_X5_isSame_44 5 0
def S_X5_isSame_88 (sr : Nat → Nat → Int32) (k88 : Nat) (v3_88 : Int32) : Int32 :=
  (v3_88 + (sr k88 1))
def I_X5_isSame_88 (sr : Nat → Nat → Int32) (R : Nat) : Int32 :=
  it (fun (k : Nat) (v : Int32) => S_X5_isSame_88 sr k v) R 0 0
def T_X5_isSame_185 (sg : Nat → Nat → Int32) (k88 : Nat) (k158 : Nat) : Int32 :=
  if (F_X5_isIn sg k158 (nI k88)) = 0 then 0 else 1
def T_X5_isSame_208 (sg : Nat → Nat → Int32) (k88 : Nat) (k158 : Nat) : Int32 :=
  if (F_X5_isIn sg k158 (nI k88)) = 0 then 0 else (sg k158 2)
def S_X5_isSame_158 (sg : Nat → Nat → Int32) (k88 : Nat) (k158 : Nat) (q99c_158 : Nat → Int32) : Nat → Int32 :=
  (upd (upd q99c_158 2 ((q99c_158 2) + (T_X5_isSame_185 sg k88 k158))) 4 (((upd q99c_158 2 ((q99c_158 2) + (T_X5_isSame_185 sg k88 k158))) 4) + (T_X5_isSame_208 sg k88 k158)))
def I_X5_isSame_158 (sr : Nat → Nat → Int32) (sg : Nat → Nat → Int32) (G : Nat) (k88 : Nat) : Nat → Int32 :=
  it (fun (k : Nat) (v : Nat → Int32) => S_X5_isSame_158 sg k88 k v) G 0 (upd (upd (upd (upd (upd (fun _ => 0) 0 (sr k88 0)) 1 (sr k88 1)) 2 0) 3 (F_X5_whispers sg G (nI k88))) 4 0)
def L_X5_isSame_242 : Nat → Nat → Unit
  | 0, _ => ()
  | n242 + 1, k242 =>
    L_X5_isSame_242 n242 (k242 + 1)
def I_X5_isSame_242 : Unit :=
  L_X5_isSame_242 5 0
def L_X5_isSame_281 : Nat → Nat → Unit
  | 0, _ => ()
  | n281 + 1, k281 =>
    L_X5_isSame_281 n281 (k281 + 1)
def I_X5_isSame_281 (G : Nat) : Unit :=
  L_X5_isSame_281 G 0
def L_X5_isSame_294 : Nat → Nat → Unit
  | 0, _ => ()
  | n294 + 1, k294 =>
    L_X5_isSame_294 n294 (k294 + 1)
def I_X5_isSame_294 : Unit :=
  L_X5_isSame_294 6 0
def L_X5_isSame_417 : Nat → Nat → Unit
  | 0, _ => ()
  | n417 + 1, k417 =>
    L_X5_isSame_417 n417 (k417 + 1)
def I_X5_isSame_417 : Unit :=
  L_X5_isSame_417 9 0
def F_X5_isSame (G : Nat) : Int32 :=
  if (nI G) = 0 then
    1
  else
    1
