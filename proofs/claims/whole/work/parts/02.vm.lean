/-! A SMALL MACHINE of pure functions: what the methods do to a memory of numbers. Its steps are held against the bytecode in 03. -/
abbrev gm_V : Type := Int ⊕ (Int ⊕ Int)
abbrev gm_I (x : Int) : gm_V := .inl x
abbrev gm_J (x : Int) : gm_V := .inr (.inl x)
abbrev gm_R (x : Int) : gm_V := .inr (.inr x)
/-- memory: how many cells there are (1 ..), fields by (number of the field, cell), elements by (cell, place) -/
abbrev gm_M : Type := Nat × (Nat → Int → Int) × (Int → Int → Int)
abbrev gm_Rs : Type := Option (Option gm_V × gm_M)
abbrev gm_Ls : Type := List (Option gm_V)
abbrev gm_K : Type := gm_Ls → List gm_V → gm_M → gm_Rs
abbrev gm_O : Type := Nat → List gm_V → gm_M → gm_Rs
abbrev gm_A : Type := gm_O → (Nat → gm_K) → gm_K → gm_K
def gm_w (x : Int) : Int := (Int32.ofInt x).toInt
def gm_lw (x : Int) : Int := (Int64.ofInt x).toInt
def gm_gF (M : gm_M) (f : Nat) (o : Int) : Int := M.2.1 f o
def gm_gA (M : gm_M) (a i : Int) : Int := M.2.2 a i
def gm_sF (M : gm_M) (f : Nat) (o v : Int) : gm_M := (M.1, fun f' o' => if f' = f ∧ o' = o then v else M.2.1 f' o', M.2.2)
def gm_sA (M : gm_M) (a i v : Int) : gm_M := (M.1, M.2.1, fun a' i' => if a' = a ∧ i' = i then v else M.2.2 a' i')
/-- a new cell, all 0 -/
def gm_al (M : gm_M) : gm_M := (M.1 + 1, fun f o => if o = ((M.1 + 1 : Nat) : Int) then 0 else M.2.1 f o, fun a i => if a = ((M.1 + 1 : Nat) : Int) then 0 else M.2.2 a i)
/-- n elements of a0 from sp on come to a from dp on -/
def gm_cp (M : gm_M) (a0 sp a dp n : Int) : gm_M := (M.1, M.2.1, fun a' i' => if a' = a ∧ dp ≤ i' ∧ i' < dp + n then M.2.2 a0 (sp + (i' - dp)) else M.2.2 a' i')
theorem gm_gF_sF (M : gm_M) (f : Nat) (o v : Int) (f' : Nat) (o' : Int) : gm_gF (gm_sF M f o v) f' o' = if f' = f ∧ o' = o then v else gm_gF M f' o' := rfl
theorem gm_gF_sA (M : gm_M) (a i v : Int) (f' : Nat) (o' : Int) : gm_gF (gm_sA M a i v) f' o' = gm_gF M f' o' := rfl
theorem gm_gA_sF (M : gm_M) (f : Nat) (o v : Int) (a' i' : Int) : gm_gA (gm_sF M f o v) a' i' = gm_gA M a' i' := rfl
theorem gm_gA_sA (M : gm_M) (a i v : Int) (a' i' : Int) : gm_gA (gm_sA M a i v) a' i' = if a' = a ∧ i' = i then v else gm_gA M a' i' := rfl
theorem gm_gF_cp (M : gm_M) (a0 sp a dp n : Int) (f' : Nat) (o' : Int) : gm_gF (gm_cp M a0 sp a dp n) f' o' = gm_gF M f' o' := rfl
theorem gm_gA_cp (M : gm_M) (a0 sp a dp n : Int) (a' i' : Int) : gm_gA (gm_cp M a0 sp a dp n) a' i' = if a' = a ∧ dp ≤ i' ∧ i' < dp + n then gm_gA M a0 (sp + (i' - dp)) else gm_gA M a' i' := rfl
theorem gm_1_sF (M : gm_M) (f : Nat) (o v : Int) : (gm_sF M f o v).1 = M.1 := rfl
theorem gm_1_sA (M : gm_M) (a i v : Int) : (gm_sA M a i v).1 = M.1 := rfl
theorem gm_1_cp (M : gm_M) (a0 sp a dp n : Int) : (gm_cp M a0 sp a dp n).1 = M.1 := rfl
theorem gm_w_id {x : Int} (h1 : -2147483648 ≤ x) (h2 : x < 2147483648) : gm_w x = x := Int32.toInt_ofInt_of_le h1 h2
-- locals
def gm_lget : gm_Ls → Nat → Option gm_V
  | [], _ => none
  | x :: _, 0 => x
  | _ :: xs, n + 1 => gm_lget xs n
def gm_nl : Option gm_V → Option gm_V
  | some (.inr (.inl _)) => none
  | x => x
def gm_lset : gm_Ls → Nat → gm_V → gm_Ls
  | [], _, _ => []
  | _ :: xs, 0, v => some v :: xs
  | x :: xs, 1, v => gm_nl x :: gm_lset xs 0 v
  | x :: xs, n + 2, v => x :: gm_lset xs (n + 1) v
def gm_ent : List gm_V → gm_Ls
  | [] => []
  | .inr (.inl x) :: vs => some (.inr (.inl x)) :: none :: gm_ent vs
  | v :: vs => some v :: gm_ent vs
def gm_wd : List gm_V → Nat
  | [] => 0
  | .inr (.inl _) :: vs => gm_wd vs + 2
  | _ :: vs => gm_wd vs + 1
def gm_pop : Nat → List gm_V → List gm_V → Option (List gm_V × List gm_V)
  | 0, st, acc => some (acc, st)
  | n + 1, v :: st, acc => gm_pop n st (v :: acc)
  | _ + 1, [], _ => none
-- actions
def gm_push (v : gm_V) : gm_A := fun _ _ N L st M => N L (v :: st) M
def gm_iload (i : Nat) : gm_A := fun _ _ N L st M => match gm_lget L i with
  | some (.inl x) => N L (.inl x :: st) M
  | _ => none
def gm_lload (i : Nat) : gm_A := fun _ _ N L st M => match gm_lget L i with
  | some (.inr (.inl x)) => N L (.inr (.inl x) :: st) M
  | _ => none
def gm_aload (i : Nat) : gm_A := fun _ _ N L st M => match gm_lget L i with
  | some (.inr (.inr x)) => N L (.inr (.inr x) :: st) M
  | _ => none
def gm_istore (i : Nat) : gm_A := fun _ _ N L st M => match st with
  | .inl x :: st => N (gm_lset L i (.inl x)) st M
  | _ => none
def gm_astore (i : Nat) : gm_A := fun _ _ N L st M => match st with
  | .inr (.inr x) :: st => N (gm_lset L i (.inr (.inr x))) st M
  | _ => none
def gm_iinc (i : Nat) (n : Int) : gm_A := fun _ _ N L st M => match gm_lget L i with
  | some (.inl x) => N (gm_lset L i (.inl (x + n))) st M
  | _ => none
def gm_op2 (f : Int → Int → Int) : gm_A := fun _ _ N L st M => match st with
  | .inl y :: .inl x :: st => N L (.inl (f x y) :: st) M
  | _ => none
def gm_add (x y : Int) : Int := x + y
def gm_sub (x y : Int) : Int := x - y
def gm_mul (x y : Int) : Int := x * y
def gm_and (x y : Int) : Int := (Int32.ofInt x &&& Int32.ofInt y).toInt
def gm_or (x y : Int) : Int := (Int32.ofInt x ||| Int32.ofInt y).toInt
def gm_xor (x y : Int) : Int := (Int32.ofInt x ^^^ Int32.ofInt y).toInt
def gm_shl (x y : Int) : Int := (Int32.ofInt x <<< (Int32.ofInt y &&& 31)).toInt
def gm_shr (x y : Int) : Int := (Int32.ofInt x >>> (Int32.ofInt y &&& 31)).toInt
def gm_div (x y : Int) : Int := (Int32.ofInt x / Int32.ofInt y).toInt
def gm_rem (x y : Int) : Int := (Int32.ofInt x - Int32.ofInt x / Int32.ofInt y * Int32.ofInt y).toInt
def gm_quo (f : Int → Int → Int) : gm_A := fun _ _ N L st M => match st with
  | .inl y :: .inl x :: st => if gm_w y = 0 then none else N L (.inl (f x y) :: st) M
  | _ => none
def gm_op1 (f : Int → Int) : gm_A := fun _ _ N L st M => match st with
  | .inl x :: st => N L (.inl (f x) :: st) M
  | _ => none
def gm_neg (x : Int) : Int := -x
def gm_i2b (x : Int) : Int := (Int32.ofInt x).toInt8.toInt32.toInt
def gm_i2s (x : Int) : Int := (Int32.ofInt x).toInt16.toInt32.toInt
def gm_i2c (x : Int) : Int := ((Int32.ofInt x).toUInt32 % 65536).toInt32.toInt
def gm_lop2 (f : Int → Int → Int) : gm_A := fun _ _ N L st M => match st with
  | .inr (.inl y) :: .inr (.inl x) :: st => N L (.inr (.inl (f x y)) :: st) M
  | _ => none
def gm_land (x y : Int) : Int := (Int64.ofInt x &&& Int64.ofInt y).toInt
def gm_lor (x y : Int) : Int := (Int64.ofInt x ||| Int64.ofInt y).toInt
def gm_lshl : gm_A := fun _ _ N L st M => match st with
  | .inl y :: .inr (.inl x) :: st => N L (.inr (.inl (Int64.ofInt x <<< ((Int32.ofInt y).toInt64 &&& 63)).toInt) :: st) M
  | _ => none
def gm_i2l : gm_A := fun _ _ N L st M => match st with
  | .inl x :: st => N L (.inr (.inl (gm_w x)) :: st) M
  | _ => none
def gm_l2i : gm_A := fun _ _ N L st M => match st with
  | .inr (.inl x) :: st => N L (.inl x :: st) M
  | _ => none
def gm_lcmp : gm_A := fun _ _ N L st M => match st with
  | .inr (.inl y) :: .inr (.inl x) :: st => N L (.inl (if gm_lw x < gm_lw y then -1 else if gm_lw x = gm_lw y then 0 else 1) :: st) M
  | _ => none
def gm_dup : gm_A := fun _ _ N L st M => match st with
  | .inl x :: st => N L (.inl x :: .inl x :: st) M
  | .inr (.inr x) :: st => N L (.inr (.inr x) :: .inr (.inr x) :: st) M
  | _ => none
def gm_pop1 : gm_A := fun _ _ N L st M => match st with
  | .inl _ :: st => N L st M
  | .inr (.inr _) :: st => N L st M
  | _ => none
def gm_dup2 : gm_A := fun _ _ N L st M => match st with
  | .inl y :: .inr (.inr x) :: st => N L (.inl y :: .inr (.inr x) :: .inl y :: .inr (.inr x) :: st) M
  | _ => none
def gm_goto (b : Nat) : gm_A := fun _ J _ L st M => J b L st M
def gm_ifeq (b : Nat) : gm_A := fun _ J N L st M => match st with
  | .inl x :: st => if gm_w x = 0 then J b L st M else N L st M
  | _ => none
def gm_ifne (b : Nat) : gm_A := fun _ J N L st M => match st with
  | .inl x :: st => if gm_w x = 0 then N L st M else J b L st M
  | _ => none
def gm_iflt (b : Nat) : gm_A := fun _ J N L st M => match st with
  | .inl x :: st => if gm_w x < 0 then J b L st M else N L st M
  | _ => none
def gm_ifge (b : Nat) : gm_A := fun _ J N L st M => match st with
  | .inl x :: st => if gm_w x < 0 then N L st M else J b L st M
  | _ => none
def gm_ifgt (b : Nat) : gm_A := fun _ J N L st M => match st with
  | .inl x :: st => if 0 < gm_w x then J b L st M else N L st M
  | _ => none
def gm_ifle (b : Nat) : gm_A := fun _ J N L st M => match st with
  | .inl x :: st => if 0 < gm_w x then N L st M else J b L st M
  | _ => none
def gm_ceq (b : Nat) : gm_A := fun _ J N L st M => match st with
  | .inl y :: .inl x :: st => if gm_w x = gm_w y then J b L st M else N L st M
  | _ => none
def gm_cne (b : Nat) : gm_A := fun _ J N L st M => match st with
  | .inl y :: .inl x :: st => if gm_w x = gm_w y then N L st M else J b L st M
  | _ => none
def gm_clt (b : Nat) : gm_A := fun _ J N L st M => match st with
  | .inl y :: .inl x :: st => if gm_w x < gm_w y then J b L st M else N L st M
  | _ => none
def gm_cge (b : Nat) : gm_A := fun _ J N L st M => match st with
  | .inl y :: .inl x :: st => if gm_w x < gm_w y then N L st M else J b L st M
  | _ => none
def gm_cgt (b : Nat) : gm_A := fun _ J N L st M => match st with
  | .inl y :: .inl x :: st => if gm_w y < gm_w x then J b L st M else N L st M
  | _ => none
def gm_cle (b : Nat) : gm_A := fun _ J N L st M => match st with
  | .inl y :: .inl x :: st => if gm_w y < gm_w x then N L st M else J b L st M
  | _ => none
def gm_ifnull (b : Nat) : gm_A := fun _ J N L st M => match st with
  | .inr (.inr x) :: st => if x ≤ 0 then J b L st M else N L st M
  | _ => none
def gm_ifnonnull (b : Nat) : gm_A := fun _ J N L st M => match st with
  | .inr (.inr x) :: st => if x ≤ 0 then N L st M else J b L st M
  | _ => none
def gm_swk (J : Nat → gm_K) (d : Nat) (x : Int) : List (Int × Nat) → gm_K
  | [], L, st, M => J d L st M
  | q :: ps, L, st, M => if x = q.1 then J q.2 L st M else gm_swk J d x ps L st M
def gm_switch (ps : List (Int × Nat)) (d : Nat) : gm_A := fun _ J _ L st M => match st with
  | .inl x :: st => gm_swk J d (gm_w x) ps L st M
  | _ => none
def gm_NX : Nat := 188
/-- the cells in the order in which they are made: kind (an object of the class of that number; 20 int, 21 long, 22 char, 23 boolean, 24 House, 25 Ground, 26 Tape: a row), length -/
def gm_shp : List (Nat × Nat) := [(8, 13), (7, 10), (24, 6), (20, 8), (20, 8), (20, 8), (20, 12), (2, 7), (5, 3), (20, 4), (2, 7), (5, 3), (20, 4), (2, 7), (5, 3), (20, 4), (2, 7), (5, 3), (20, 4), (2, 7), (5, 3), (20, 4), (2, 7), (5, 3), (20, 4), (7, 10), (24, 6), (20, 8), (20, 8), (20, 8), (20, 12), (2, 7), (5, 3), (20, 4), (2, 7), (5, 3), (20, 4), (2, 7), (5, 3), (20, 4), (2, 7), (5, 3), (20, 4), (2, 7), (5, 3), (20, 4), (2, 7), (5, 3), (20, 4), (7, 10), (24, 6), (20, 8), (20, 8), (20, 8), (20, 12), (2, 7), (5, 3), (20, 4), (2, 7), (5, 3), (20, 4), (2, 7), (5, 3), (20, 4), (2, 7), (5, 3), (20, 4), (2, 7), (5, 3), (20, 4), (2, 7), (5, 3), (20, 4), (2, 7), (5, 3), (20, 4), (2, 7), (5, 3), (20, 4), (5, 3), (4, 3), (22, 100), (1, 4), (0, 4), (20, 100), (20, 100), (0, 4), (20, 100), (20, 100), (25, 6), (3, 2), (20, 20), (26, 6), (1, 4), (0, 4), (20, 100), (20, 100), (0, 4), (20, 100), (20, 100), (1, 4), (0, 4), (20, 100), (20, 100), (0, 4), (20, 100), (20, 100), (1, 4), (0, 4), (20, 100), (20, 100), (0, 4), (20, 100), (20, 100), (1, 4), (0, 4), (20, 100), (20, 100), (0, 4), (20, 100), (20, 100), (1, 4), (0, 4), (20, 100), (20, 100), (0, 4), (20, 100), (20, 100), (1, 4), (0, 4), (20, 100), (20, 100), (0, 4), (20, 100), (20, 100), (6, 3), (21, 60), (6, 3), (21, 60), (6, 3), (21, 60), (6, 3), (21, 60), (6, 3), (21, 60), (6, 3), (21, 60), (9, 64), (20, 6), (20, 6), (20, 6), (20, 6), (20, 6), (20, 6), (20, 24), (20, 100), (20, 6), (20, 60), (20, 60), (20, 60), (20, 60), (20, 600), (20, 101), (20, 14), (23, 100), (20, 6), (20, 6), (20, 6), (20, 8), (20, 8), (20, 8), (20, 12), (20, 6), (20, 6), (20, 6), (20, 6), (20, 6), (20, 6), (20, 24), (20, 8), (20, 8), (20, 8), (20, 12), (20, 20), (20, 6), (20, 6), (21, 360), (21, 60)]
def gm_sh (k : Nat) : Nat × Nat := gm_shp.getD (k - 1) (99, 0)
def gm_sl : Nat → Nat
  | 0 => 0
  | k + 1 => gm_sl k + (gm_sh (k + 1)).2
def gm_abv (i : Int) : Int := ([-1, 0, 0, 0, 1, 2, 3] : List Int).getD i.toNat 0
def gm_bod (i : Int) : Int := ([10, 11, 12, 0, 20, 0, 30, 0, 0, 0, 0, 40, 50, 51, 0, 0, 0, 60, 71, 70, 0] : List Int).getD i.toNat 0
def gm_isO (ci : Nat) (M : gm_M) (o : Int) : Bool := decide (0 < o) && (decide (o ≤ (M.1 : Int)) && ((gm_sh o.toNat).1 == ci))
def gm_isT (a : Int) : Bool := decide (a = 1000) || (decide (a = 1001) || decide (a = 1002))
def gm_len (M : gm_M) (a : Int) : Int := if a = 1000 then 7 else if a = 1001 then 21 else if a = 1002 then M.2.1 9999 0 else ((gm_sh a.toNat).2 : Int)
def gm_getI (ci f : Nat) : gm_A := fun _ _ N L st M => match st with
  | .inr (.inr o) :: st => if gm_isO ci M o = true then N L (.inl (gm_gF M f o) :: st) M else none
  | _ => none
def gm_getR (ci f : Nat) : gm_A := fun _ _ N L st M => match st with
  | .inr (.inr o) :: st => if gm_isO ci M o = true then N L (.inr (.inr (gm_gF M f o)) :: st) M else none
  | _ => none
def gm_putI (ci f : Nat) : gm_A := fun _ _ N L st M => match st with
  | .inl x :: .inr (.inr o) :: st => if gm_isO ci M o = true then N L st (gm_sF M f o x) else none
  | _ => none
def gm_putZ (ci f : Nat) : gm_A := fun _ _ N L st M => match st with
  | .inl x :: .inr (.inr o) :: st => if gm_isO ci M o = true ∧ (x = 0 ∨ x = 1) then N L st (gm_sF M f o x) else none
  | _ => none
def gm_putR (ci f : Nat) : gm_A := fun _ _ N L st M => match st with
  | .inr (.inr x) :: .inr (.inr o) :: st => if gm_isO ci M o = true then N L st (gm_sF M f o x) else none
  | _ => none
def gm_new (ci : Nat) : gm_A := fun _ _ N L st M => if M.1 < gm_NX ∧ (gm_sh (M.1 + 1)).1 = ci then N L (.inr (.inr ((M.1 + 1 : Nat) : Int)) :: st) (gm_al M) else none
def gm_newarr (kd : Nat) : gm_A := fun _ _ N L st M => match st with
  | .inl n :: st => if M.1 < gm_NX ∧ 0 ≤ gm_w n ∧ gm_sh (M.1 + 1) = (kd, (gm_w n).toNat) then N L (.inr (.inr ((M.1 + 1 : Nat) : Int)) :: st) (gm_al M) else none
  | _ => none
def gm_alen : gm_A := fun _ _ N L st M => match st with
  | .inr (.inr a) :: st => if gm_isT a = true ∨ (0 < a ∧ a ≤ (M.1 : Int) ∧ 20 ≤ (gm_sh a.toNat).1 ∧ (gm_sh a.toNat).1 ≤ 26) then N L (.inl (gm_len M a) :: st) M else none
  | _ => none
/-- the place is within the row -/
def gm_in (M : gm_M) (a i : Int) : Bool := decide (0 ≤ gm_w i) && decide (gm_w i < gm_len M a)
def gm_iald : gm_A := fun _ _ N L st M => match st with
  | .inl i :: .inr (.inr a) :: st => if (gm_isT a || gm_isO 20 M a) = true ∧ gm_in M a i = true then N L (.inl (gm_gA M a (gm_w i)) :: st) M else none
  | _ => none
def gm_cald : gm_A := fun _ _ N L st M => match st with
  | .inl i :: .inr (.inr a) :: st => if gm_isO 22 M a = true ∧ gm_in M a i = true then N L (.inl (gm_gA M a (gm_w i)) :: st) M else none
  | _ => none
def gm_zald : gm_A := fun _ _ N L st M => match st with
  | .inl i :: .inr (.inr a) :: st => if gm_isO 23 M a = true ∧ gm_in M a i = true then N L (.inl (gm_gA M a (gm_w i)) :: st) M else none
  | _ => none
def gm_lald : gm_A := fun _ _ N L st M => match st with
  | .inl i :: .inr (.inr a) :: st => if gm_isO 21 M a = true ∧ gm_in M a i = true then N L (.inr (.inl (gm_gA M a (gm_w i))) :: st) M else none
  | _ => none
def gm_aald (kd : Nat) : gm_A := fun _ _ N L st M => match st with
  | .inl i :: .inr (.inr a) :: st => if gm_isO kd M a = true ∧ gm_in M a i = true then N L (.inr (.inr (gm_gA M a (gm_w i))) :: st) M else none
  | _ => none
def gm_iast : gm_A := fun _ _ N L st M => match st with
  | .inl x :: .inl i :: .inr (.inr a) :: st => if gm_isO 20 M a = true ∧ gm_in M a i = true then N L st (gm_sA M a (gm_w i) x) else none
  | _ => none
def gm_cast : gm_A := fun _ _ N L st M => match st with
  | .inl x :: .inl i :: .inr (.inr a) :: st => if gm_isO 22 M a = true ∧ gm_in M a i = true ∧ 0 ≤ x ∧ x < 65536 then N L st (gm_sA M a (gm_w i) x) else none
  | _ => none
def gm_zast : gm_A := fun _ _ N L st M => match st with
  | .inl x :: .inl i :: .inr (.inr a) :: st => if gm_isO 23 M a = true ∧ gm_in M a i = true ∧ (x = 0 ∨ x = 1) then N L st (gm_sA M a (gm_w i) x) else none
  | _ => none
def gm_last : gm_A := fun _ _ N L st M => match st with
  | .inr (.inl x) :: .inl i :: .inr (.inr a) :: st => if gm_isO 21 M a = true ∧ gm_in M a i = true then N L st (gm_sA M a (gm_w i) x) else none
  | _ => none
def gm_aast (kd ci : Nat) : gm_A := fun _ _ N L st M => match st with
  | .inr (.inr x) :: .inl i :: .inr (.inr a) :: st => if gm_isO kd M a = true ∧ gm_in M a i = true ∧ gm_isO ci M x = true then N L st (gm_sA M a (gm_w i) x) else none
  | _ => none
/-- System.arraycopy over rows of one kind (20 int, 21 long) -/
def gm_acp (kd : Nat) : gm_A := fun _ _ N L st M => match st with
  | .inl n :: .inl dp :: .inr (.inr a) :: .inl sp :: .inr (.inr a0) :: st => if M.1 = gm_NX ∧ gm_wd st ≤ 8 ∧ gm_isO kd M a0 = true ∧ gm_isO kd M a = true ∧ 0 ≤ gm_w sp ∧ 0 ≤ gm_w dp ∧ 0 ≤ gm_w n ∧ gm_w sp + gm_w n ≤ gm_len M a0 ∧ gm_w dp + gm_w n ≤ gm_len M a then N L st (gm_cp M a0 (gm_w sp) a (gm_w dp) (gm_w n)) else none
  | _ => none
def gm_max : gm_A := fun _ _ N L st M => match st with
  | .inl y :: .inl x :: st => if gm_wd st ≤ 8 then N L (.inl (if gm_w x < gm_w y then y else x) :: st) M else none
  | _ => none
def gm_min : gm_A := fun _ _ N L st M => match st with
  | .inl y :: .inl x :: st => if gm_wd st ≤ 8 then N L (.inl (if gm_w y < gm_w x then y else x) :: st) M else none
  | _ => none
def gm_oinit : gm_A := fun _ _ N L st M => match st with
  | .inr (.inr o) :: st => if 0 < o ∧ gm_wd st ≤ 8 then N L st M else none
  | _ => none
def gm_back (N : gm_K) (L : gm_Ls) (st : List gm_V) : gm_Rs → gm_Rs
  | some (some v, M) => N L (v :: st) M
  | some (none, M) => N L st M
  | none => none
/-- a call of a static method with n arguments -/
def gm_scall (mid n : Nat) : gm_A := fun C _ N L st M => match gm_pop n st [] with
  | some (as, rest) => if gm_wd rest ≤ 8 then gm_back N L rest (C mid as M) else none
  | none => none
/-- a call with n arguments, the object, which is of class ci, among them -/
def gm_vcall (ci mid n : Nat) : gm_A := fun C _ N L st M => match gm_pop n st [] with
  | some (.inr (.inr o) :: as, rest) => if gm_wd rest ≤ 8 ∧ gm_isO ci M o = true then gm_back N L rest (C mid (.inr (.inr o) :: as) M) else none
  | _ => none
def gm_iret : gm_A := fun _ _ _ _ st M => match st with
  | [.inl x] => some (some (.inl x), M)
  | _ => none
def gm_zret : gm_A := fun _ _ _ _ st M => match st with
  | [.inl x] => if x = 0 ∨ x = 1 then some (some (.inl x), M) else none
  | _ => none
def gm_cret : gm_A := fun _ _ _ _ st M => match st with
  | [.inl x] => if 0 ≤ x ∧ x < 65536 then some (some (.inl x), M) else none
  | _ => none
def gm_lret : gm_A := fun _ _ _ _ st M => match st with
  | [.inr (.inl x)] => some (some (.inr (.inl x)), M)
  | _ => none
def gm_aret : gm_A := fun _ _ _ _ st M => match st with
  | [.inr (.inr x)] => some (some (.inr (.inr x)), M)
  | _ => none
def gm_vret : gm_A := fun _ _ _ _ st M => match st with
  | [] => some (none, M)
  | _ => none
-- the texts that stand in the class: 1003 .. 1008
def gm_txt : List (List Int) := [[115, 117, 110, 32], [99, 111, 108, 100, 32], [108, 111, 119, 32], [104, 105, 103, 104, 32], [104, 107, 118, 109, 101, 115], [60, 61, 62]]
def gm_tx (r : Int) : List Int := gm_txt.getD (r - 1003).toNat []
def gm_isX (r : Int) : Bool := decide (1003 ≤ r) && decide (r < 1009)
def gm_ixo (c : Int) : Int → List Int → Int
  | _, [] => -1
  | k, x :: xs => if c = x then k else gm_ixo c (k + 1) xs
def gm_slen : gm_A := fun _ _ N L st M => match st with
  | .inr (.inr r) :: st => if gm_isX r = true ∧ gm_wd st ≤ 8 then N L (.inl ((gm_tx r).length : Int) :: st) M else none
  | _ => none
def gm_schar : gm_A := fun _ _ N L st M => match st with
  | .inl i :: .inr (.inr r) :: st => if gm_isX r = true ∧ gm_wd st ≤ 8 ∧ 0 ≤ gm_w i ∧ gm_w i < ((gm_tx r).length : Int) then N L (.inl ((gm_tx r).getD (gm_w i).toNat 0) :: st) M else none
  | _ => none
def gm_sidx : gm_A := fun _ _ N L st M => match st with
  | .inl c :: .inr (.inr r) :: st => if gm_isX r = true ∧ gm_wd st ≤ 8 then N L (.inl (gm_ixo (gm_w c) 0 (gm_tx r)) :: st) M else none
  | _ => none
-- a method's run: its blocks; the calls go to C
def gm_xl (C : gm_O) (J : Nat → gm_K) : List gm_A → gm_K
  | [], _, _, _ => none
  | a :: as, L, st, M => a C J (gm_xl C J as) L st M
def gm_ex (C : gm_O) (B : Nat → List gm_A) : Nat → Nat → gm_K
  | 0, _, _, _, _ => none
  | f + 1, b, L, st, M => gm_xl C (gm_ex C B f) (B b) L st M
