/-! THE SMALL MACHINE: values (tag, number), memory, one step, a run with fuel and depth -/
abbrev mj_V : Type := Nat × Int
/-- cells made, slots made, tag of a cell, its length, its contents; a cell is named by 1, 2, .. -/
abbrev mj_M : Type := Nat × Nat × (Int → Nat) × (Int → Int) × (Int → Int → Int)
abbrev mj_St : Type := Nat × List mj_V × List mj_V × mj_M
def mj_up (h : Int → Int → Int) (a i v : Int) : Int → Int → Int := fun b j => if b = a ∧ j = i then v else h b j
def mj_wr (M : mj_M) (a i v : Int) : mj_M := (M.1, M.2.1, M.2.2.1, M.2.2.2.1, mj_up M.2.2.2.2 a i v)
def mj_cp (M : mj_M) (a sp b dp n : Int) : mj_M := (M.1, M.2.1, M.2.2.1, M.2.2.2.1, fun c j => if c = b ∧ dp ≤ j ∧ j < dp + n then M.2.2.2.2 a (sp + (j - dp)) else M.2.2.2.2 c j)
def mj_nw (M : mj_M) (t : Nat) (n : Int) (f : Int → Int) : mj_M := (M.1 + 1, M.2.1 + n.toNat, fun b => if b = (M.1 : Int) + 1 then t else M.2.2.1 b, fun b => if b = (M.1 : Int) + 1 then n else M.2.2.2.1 b, fun b j => if b = (M.1 : Int) + 1 then f j else M.2.2.2.2 b j)
def ji_add (x y : Int) : Int := (Int32.ofInt x + Int32.ofInt y).toInt
def ji_sub (x y : Int) : Int := (Int32.ofInt x - Int32.ofInt y).toInt
def ji_mul (x y : Int) : Int := (Int32.ofInt x * Int32.ofInt y).toInt
def ji_div (x y : Int) : Int := (Int32.ofInt x / Int32.ofInt y).toInt
def ji_rem (x y : Int) : Int := (Int32.ofInt x - Int32.ofInt x / Int32.ofInt y * Int32.ofInt y).toInt
def ji_neg (x : Int) : Int := (-Int32.ofInt x).toInt
def ji_shl (x y : Int) : Int := (Int32.ofInt x <<< (Int32.ofInt y &&& 31)).toInt
def ji_shr (x y : Int) : Int := (Int32.ofInt x >>> (Int32.ofInt y &&& 31)).toInt
def ji_ushr (x y : Int) : Int := ((Int32.ofInt x).toUInt32 >>> ((Int32.ofInt y).toUInt32 &&& Int32.toUInt32 31)).toInt32.toInt
def ji_and (x y : Int) : Int := (Int32.ofInt x &&& Int32.ofInt y).toInt
def ji_or (x y : Int) : Int := (Int32.ofInt x ||| Int32.ofInt y).toInt
def ji_xor (x y : Int) : Int := (Int32.ofInt x ^^^ Int32.ofInt y).toInt
def jl_add (x y : Int) : Int := (Int64.ofInt x + Int64.ofInt y).toInt
def jl_sub (x y : Int) : Int := (Int64.ofInt x - Int64.ofInt y).toInt
def jl_mul (x y : Int) : Int := (Int64.ofInt x * Int64.ofInt y).toInt
def jl_div (x y : Int) : Int := (Int64.ofInt x / Int64.ofInt y).toInt
def jl_rem (x y : Int) : Int := (Int64.ofInt x - Int64.ofInt x / Int64.ofInt y * Int64.ofInt y).toInt
def jl_neg (x : Int) : Int := (-Int64.ofInt x).toInt
def jl_shl (x y : Int) : Int := (Int64.ofInt x <<< ((Int32.ofInt y).toInt64 &&& 63)).toInt
def jl_shr (x y : Int) : Int := (Int64.ofInt x >>> ((Int32.ofInt y).toInt64 &&& 63)).toInt
def jl_and (x y : Int) : Int := (Int64.ofInt x &&& Int64.ofInt y).toInt
def jl_or (x y : Int) : Int := (Int64.ofInt x ||| Int64.ofInt y).toInt
def ji_2l (x : Int) : Int := (Int32.ofInt x).toInt64.toInt
def jl_2i (x : Int) : Int := (Int64.ofInt x).toInt32.toInt
def ji_2c (x : Int) : Int := ((Int32.ofInt x).toUInt32 % 65536).toInt32.toInt
def ji_2b (x : Int) : Int := (Int32.ofInt x).toInt8.toInt32.toInt
def jl_cmp (x y : Int) : Int := (lg_cmp (Int64.ofInt x) (Int64.ofInt y)).toInt
/-- a reference tag -/
def mj_isR (t : Nat) : Bool := Nat.ble 2 t && !(Nat.beq t 9)
/-- one slot of the locals set: a long whose second half is hit goes -/
def mj_set (ls : List mj_V) (i : Nat) (v : mj_V) : List mj_V :=
  match i with
  | 0 => ls.set 0 v
  | j + 1 => match ls[j]? with
    | some (1, _) => (ls.set j (9, 0)).set (j + 1) v
    | _ => ls.set (j + 1) v
def mj_set2 (ls : List mj_V) (i : Nat) (v : mj_V) : List mj_V := (mj_set ls i v).set (i + 1) (9, 0)
def mj_nrm (T : Nat) (v : mj_V) : Option mj_V := if v.1 = T then some v else if v.1 = 2 ∧ ((3 ≤ T ∧ T ≤ 7) ∨ 20 ≤ T) then some (T, 0) else none
-- helpers of a step
def mj_k (pc : Nat) (ls st : List mj_V) (M : mj_M) (v : mj_V) : Option mj_St := some (pc, ls, v :: st, M)
def mj_i1 (f : Int → Int) (pc : Nat) (ls st : List mj_V) (M : mj_M) : Option mj_St := match st with
  | (0, x) :: r => some (pc, ls, (0, f x) :: r, M)
  | _ => none
def mj_l1 (f : Int → Int) (pc : Nat) (ls st : List mj_V) (M : mj_M) : Option mj_St := match st with
  | (1, x) :: r => some (pc, ls, (1, f x) :: r, M)
  | _ => none
def mj_i2 (f : Int → Int → Int) (pc : Nat) (ls st : List mj_V) (M : mj_M) : Option mj_St := match st with
  | (0, y) :: (0, x) :: r => some (pc, ls, (0, f x y) :: r, M)
  | _ => none
def mj_i2d (f : Int → Int → Int) (pc : Nat) (ls st : List mj_V) (M : mj_M) : Option mj_St := match st with
  | (0, y) :: (0, x) :: r => if y = 0 then none else some (pc, ls, (0, f x y) :: r, M)
  | _ => none
def mj_l2 (f : Int → Int → Int) (pc : Nat) (ls st : List mj_V) (M : mj_M) : Option mj_St := match st with
  | (1, y) :: (1, x) :: r => some (pc, ls, (1, f x y) :: r, M)
  | _ => none
def mj_l2d (f : Int → Int → Int) (pc : Nat) (ls st : List mj_V) (M : mj_M) : Option mj_St := match st with
  | (1, y) :: (1, x) :: r => if y = 0 then none else some (pc, ls, (1, f x y) :: r, M)
  | _ => none
def mj_ls (f : Int → Int → Int) (pc : Nat) (ls st : List mj_V) (M : mj_M) : Option mj_St := match st with
  | (0, y) :: (1, x) :: r => some (pc, ls, (1, f x y) :: r, M)
  | _ => none
def mj_il (f : Int → Int) (pc : Nat) (ls st : List mj_V) (M : mj_M) : Option mj_St := match st with
  | (0, x) :: r => some (pc, ls, (1, f x) :: r, M)
  | _ => none
def mj_li (f : Int → Int) (pc : Nat) (ls st : List mj_V) (M : mj_M) : Option mj_St := match st with
  | (1, x) :: r => some (pc, ls, (0, f x) :: r, M)
  | _ => none
def mj_lci (pc : Nat) (ls st : List mj_V) (M : mj_M) : Option mj_St := match st with
  | (1, y) :: (1, x) :: r => some (pc, ls, (0, jl_cmp x y) :: r, M)
  | _ => none
def mj_ild (i pc : Nat) (ls st : List mj_V) (M : mj_M) : Option mj_St := match ls[i]? with
  | some (0, x) => some (pc, ls, (0, x) :: st, M)
  | _ => none
def mj_lld (i pc : Nat) (ls st : List mj_V) (M : mj_M) : Option mj_St := match ls[i]? with
  | some (1, x) => some (pc, ls, (1, x) :: st, M)
  | _ => none
def mj_ald (i pc : Nat) (ls st : List mj_V) (M : mj_M) : Option mj_St := match ls[i]? with
  | some v => bif mj_isR v.1 then some (pc, ls, v :: st, M) else none
  | none => none
def mj_ist (i pc : Nat) (ls st : List mj_V) (M : mj_M) : Option mj_St := match st with
  | (0, x) :: r => if i < ls.length then some (pc, mj_set ls i (0, x), r, M) else none
  | _ => none
def mj_lst (i pc : Nat) (ls st : List mj_V) (M : mj_M) : Option mj_St := match st with
  | (1, x) :: r => if i + 1 < ls.length then some (pc, mj_set2 ls i (1, x), r, M) else none
  | _ => none
def mj_ast (i pc : Nat) (ls st : List mj_V) (M : mj_M) : Option mj_St := match st with
  | v :: r => bif mj_isR v.1 then (if i < ls.length then some (pc, mj_set ls i v, r, M) else none) else none
  | _ => none
def mj_inc (i : Nat) (n : Int) (pc : Nat) (ls st : List mj_V) (M : mj_M) : Option mj_St := match ls[i]? with
  | some (0, x) => if i < ls.length then some (pc, mj_set ls i (0, ji_add x n), st, M) else none
  | _ => none
def mj_to (pc : Nat) (off : Int) (ls st : List mj_V) (M : mj_M) : Option mj_St := if 0 ≤ (pc : Int) + off then some (((pc : Int) + off).toNat, ls, st, M) else none
def mj_cnd (c : ClassFile.Cond) (x y : Int) : Bool := match c with
  | .eq => decide (x = y)
  | .ne => !decide (x = y)
  | .lt => decide (x < y)
  | .ge => decide (y ≤ x)
  | .gt => decide (y < x)
  | .le => decide (x ≤ y)
def mj_if (c : ClassFile.Cond) (pc : Nat) (off : Int) (ls st : List mj_V) (M : mj_M) : Option mj_St := match st with
  | (0, x) :: r => if 0 ≤ (pc : Int) + off then (bif mj_cnd c x 0 then some (((pc : Int) + off).toNat, ls, r, M) else some (pc + 3, ls, r, M)) else none
  | _ => none
def mj_ifc (c : ClassFile.Cond) (pc : Nat) (off : Int) (ls st : List mj_V) (M : mj_M) : Option mj_St := match st with
  | (0, y) :: (0, x) :: r => if 0 ≤ (pc : Int) + off then (bif mj_cnd c x y then some (((pc : Int) + off).toNat, ls, r, M) else some (pc + 3, ls, r, M)) else none
  | _ => none
/-- a tag whose number 0 is null -/
def mj_isN (t : Nat) : Bool := mj_isR t && !(Nat.ble 8 t && Nat.ble t 12)
def mj_ifn (b : Bool) (pc : Nat) (off : Int) (ls st : List mj_V) (M : mj_M) : Option mj_St := match st with
  | (t, x) :: r => bif mj_isN t then (bif (decide (x = 0) == b) then mj_to pc off ls r M else some (pc + 3, ls, r, M)) else none
  | _ => none
def mj_tsw (d lo hi : Int) (offs : Array Int) (pc : Nat) (ls st : List mj_V) (M : mj_M) : Option mj_St := match st with
  | (0, x) :: r => if x < lo ∨ hi < x then mj_to pc d ls r M else match offs[(x - lo).toNat]? with
    | some off => mj_to pc off ls r M
    | none => none
  | _ => none
def mj_lsw (d : Int) (ps : Array (Int × Int)) (pc : Nat) (ls st : List mj_V) (M : mj_M) : Option mj_St := match st with
  | (0, x) :: r => bif (ps.toList.zip (ps.toList.drop 1)).all (fun (a, next) => a.1 < next.1) then mj_to pc (Op.lookupswitch.offset ps.toList d x) ls r M else none
  | _ => none
/-- the row WAYS; the bytes of the two texts -/
def mj_ways : List Int := [13, 103, 112, 1003, 1012, 1102, 1111, 2002, 2011, 2101, 2110, 3001, 3010, 3100, 4000, 10004, 10012, 10102, 10111, 11002, 11011, 11101, 11110, 12001, 12010, 12100, 13000, 20003, 20011, 20101, 20110, 21001, 21010, 21100, 22000, 30002, 30010, 30100, 31000, 40000]
def mj_txt : List (List Int) := [[102, 97, 100, 101, 115, 32, 108, 101, 97, 114, 110, 115, 102, 111, 114, 109, 32, 32, 108, 101, 110, 103, 116, 104, 112, 101, 114, 115, 111, 110, 107, 110, 111, 119, 115, 32, 115, 116, 111, 114, 121, 32, 116, 101, 97, 99, 104, 32, 98, 121, 32, 32, 32, 32, 116, 111, 32, 32, 32, 32, 102, 111, 114, 103, 101, 116, 116, 101, 108, 108, 32, 32, 121, 101, 97, 114, 32, 32, 107, 105, 110, 100, 32, 32, 97, 103, 101, 32, 32, 32, 119, 104, 111, 32, 32, 32, 98, 114, 101, 97, 116, 104, 104, 97, 108, 102, 32, 32, 107, 110, 111, 119, 110, 32, 105, 102, 32, 32, 32, 32, 116, 104, 101, 110, 32, 32, 101, 108, 115, 101, 32, 32, 101, 110, 100, 32, 32, 32, 111, 114, 32, 32, 32, 32, 97, 110, 100, 32, 32, 32, 110, 111, 116, 32, 32, 32], [60, 62, 61, 35, 43, 45, 42, 47, 40, 41, 59]]
def mj_tl (k : Int) : List Int := mj_txt.getD k.toNat []
/-- the script: its length, its ints -/
abbrev mj_X : Type := Int × (Int → Int)
def mj_get (c idx pc : Nat) (ls st : List mj_V) (M : mj_M) : Option mj_St := match st with
  | (t, x) :: r => match mj_fl c idx with
    | some (ci, fi) => if t = 20 + ci ∧ x ≠ 0 then some (pc + 3, ls, (mj_ft ci fi, M.2.2.2.2 x fi) :: r, M) else none
    | none => match mj_xf c idx with
      | some 0 => if t = 10 then some (pc + 3, ls, (11, x) :: r, M) else none
      | some _ => if t = 10 then some (pc + 3, ls, (0, 0) :: r, M) else none
      | none => none
  | _ => none
/-- a value as a slot of a kind takes it: 1 int, 2 boolean, 4 long, 100 + tag a reference -/
def mj_fit (kd : Nat) (v : mj_V) : Option Int := match kd with
  | 1 => if v.1 = 0 then some v.2 else none
  | 2 => if v.1 = 0 ∧ (v.2 = 0 ∨ v.2 = 1) then some v.2 else none
  | 4 => if v.1 = 1 then some v.2 else none
  | _ => if kd < 103 then none else (mj_nrm (kd - 100) v).map (fun w => w.2)
def mj_put (k c idx pc : Nat) (ls st : List mj_V) (M : mj_M) : Option mj_St := match st with
  | v :: (t, x) :: r => match mj_fl c idx with
    | some (ci, fi) => if t = 20 + ci ∧ x ≠ 0 ∧ (mj_fn ci fi = false ∨ ((mj_mi k).2.2.2.2 = true ∧ c = ci)) then (match mj_fit (mj_fk ci fi) v with
      | some w => some (pc + 3, ls, r, mj_wr M x fi w)
      | none => none) else none
    | none => none
  | _ => none
def mj_iald (X : mj_X) (pc : Nat) (ls st : List mj_V) (M : mj_M) : Option mj_St := match st with
  | (0, i) :: (3, x) :: r => if x ≠ 0 ∧ 0 ≤ i ∧ i < M.2.2.2.1 x then some (pc + 1, ls, (0, M.2.2.2.2 x i) :: r, M) else none
  | (0, i) :: (8, x) :: r => if x = 0 then (if 0 ≤ i ∧ i < X.1 then some (pc + 1, ls, (0, X.2 i) :: r, M) else none)
    else (if x = 1 ∧ 0 ≤ i ∧ i < 40 then some (pc + 1, ls, (0, mj_ways.getD i.toNat 0) :: r, M) else none)
  | _ => none
def mj_lald (pc : Nat) (ls st : List mj_V) (M : mj_M) : Option mj_St := match st with
  | (0, i) :: (4, x) :: r => if x ≠ 0 ∧ 0 ≤ i ∧ i < M.2.2.2.1 x then some (pc + 1, ls, (1, M.2.2.2.2 x i) :: r, M) else none
  | _ => none
def mj_bald (pc : Nat) (ls st : List mj_V) (M : mj_M) : Option mj_St := match st with
  | (0, i) :: (5, x) :: r => if x ≠ 0 ∧ 0 ≤ i ∧ i < M.2.2.2.1 x then some (pc + 1, ls, (0, M.2.2.2.2 x i) :: r, M) else none
  | (0, i) :: (11, x) :: r => if 0 ≤ i ∧ i < ((mj_tl x).length : Int) then some (pc + 1, ls, (0, (mj_tl x).getD i.toNat 0) :: r, M) else none
  | _ => none
def mj_aald (pc : Nat) (ls st : List mj_V) (M : mj_M) : Option mj_St := match st with
  | (0, i) :: (6, x) :: r => if x ≠ 0 ∧ 0 ≤ i ∧ i < M.2.2.2.1 x then some (pc + 1, ls, (24, M.2.2.2.2 x i) :: r, M) else none
  | (0, i) :: (7, x) :: r => if x ≠ 0 ∧ 0 ≤ i ∧ i < M.2.2.2.1 x then some (pc + 1, ls, (28, M.2.2.2.2 x i) :: r, M) else none
  | _ => none
def mj_iast (pc : Nat) (ls st : List mj_V) (M : mj_M) : Option mj_St := match st with
  | (0, v) :: (0, i) :: (3, x) :: r => if x ≠ 0 ∧ 0 ≤ i ∧ i < M.2.2.2.1 x then some (pc + 1, ls, r, mj_wr M x i v) else none
  | _ => none
def mj_last (pc : Nat) (ls st : List mj_V) (M : mj_M) : Option mj_St := match st with
  | (1, v) :: (0, i) :: (4, x) :: r => if x ≠ 0 ∧ 0 ≤ i ∧ i < M.2.2.2.1 x then some (pc + 1, ls, r, mj_wr M x i v) else none
  | _ => none
def mj_bast (pc : Nat) (ls st : List mj_V) (M : mj_M) : Option mj_St := match st with
  | (0, v) :: (0, i) :: (5, x) :: r => if (v = 0 ∨ v = 1) ∧ x ≠ 0 ∧ 0 ≤ i ∧ i < M.2.2.2.1 x then some (pc + 1, ls, r, mj_wr M x i v) else none
  | _ => none
def mj_aast (pc : Nat) (ls st : List mj_V) (M : mj_M) : Option mj_St := match st with
  | (24, v) :: (0, i) :: (6, x) :: r => if v ≠ 0 ∧ x ≠ 0 ∧ 0 ≤ i ∧ i < M.2.2.2.1 x then some (pc + 1, ls, r, mj_wr M x i v) else none
  | (28, v) :: (0, i) :: (7, x) :: r => if v ≠ 0 ∧ x ≠ 0 ∧ 0 ≤ i ∧ i < M.2.2.2.1 x then some (pc + 1, ls, r, mj_wr M x i v) else none
  | _ => none
def mj_alen (X : mj_X) (pc : Nat) (ls st : List mj_V) (M : mj_M) : Option mj_St := match st with
  | (8, x) :: r => if x = 0 then some (pc + 1, ls, (0, X.1) :: r, M) else if x = 1 then some (pc + 1, ls, (0, 40) :: r, M) else none
  | (11, x) :: r => some (pc + 1, ls, (0, ((mj_tl x).length : Int)) :: r, M)
  | (t, x) :: r => if 3 ≤ t ∧ t ≤ 7 ∧ x ≠ 0 then some (pc + 1, ls, (0, M.2.2.2.1 x) :: r, M) else none
  | _ => none
def mj_new (c idx pc : Nat) (ls st : List mj_V) (M : mj_M) : Option mj_St := match mj_cl c idx with
  | some ci => if ci < 13 then some (pc + 3, ls, (20 + ci, (M.1 : Int) + 1) :: st, mj_nw M (20 + ci) (mj_fN ci : Int) (fun _ => 0)) else none
  | none => none
def mj_newa (a : ArrayType) (pc : Nat) (ls st : List mj_V) (M : mj_M) : Option mj_St := match st with
  | (0, n) :: r => if 0 ≤ n ∧ n ≤ 100000 then (match a with
    | .int => some (pc + 2, ls, (3, (M.1 : Int) + 1) :: r, mj_nw M 3 n (fun _ => 0))
    | .long => some (pc + 2, ls, (4, (M.1 : Int) + 1) :: r, mj_nw M 4 n (fun _ => 0))
    | .boolean => some (pc + 2, ls, (5, (M.1 : Int) + 1) :: r, mj_nw M 5 n (fun _ => 0))
    | _ => none) else none
  | _ => none
def mj_newq (c idx pc : Nat) (ls st : List mj_V) (M : mj_M) : Option mj_St := match st with
  | (0, n) :: r => if 0 ≤ n ∧ n ≤ 100000 then (match mj_cl c idx with
    | some 4 => some (pc + 3, ls, (6, (M.1 : Int) + 1) :: r, mj_nw M 6 n (fun _ => 0))
    | some 8 => some (pc + 3, ls, (7, (M.1 : Int) + 1) :: r, mj_nw M 7 n (fun _ => 0))
    | _ => none) else none
  | _ => none
def mj_gst (c idx pc : Nat) (ls st : List mj_V) (M : mj_M) : Option mj_St := match mj_st c idx with
  | some 0 => some (pc + 3, ls, (0, 1) :: st, M)
  | some 1 => some (pc + 3, ls, (8, 1) :: st, M)
  | some 2 => some (pc + 3, ls, (12, 0) :: st, M)
  | _ => none
/-- constants: b = the instruction's length; tags 0 and 10 by ldc, 0 by ldc_w, 1 by ldc2_w -/
def mj_ldc (c idx b pc : Nat) (ls st : List mj_V) (M : mj_M) : Option mj_St := match mj_ck c idx with
  | some (0, v) => if b = 2 ∨ b = 3 then some (pc + b, ls, (0, v) :: st, M) else none
  | some (10, v) => if b = 2 then some (pc + 2, ls, (10, v) :: st, M) else none
  | some (1, v) => if b = 4 then some (pc + 3, ls, (1, v) :: st, M) else none
  | _ => none
def mj_dup (pc : Nat) (ls st : List mj_V) (M : mj_M) : Option mj_St := match st with
  | v :: r => if v.1 = 1 ∨ v.1 = 9 then none else some (pc + 1, ls, v :: v :: r, M)
  | _ => none
def mj_dup2 (pc : Nat) (ls st : List mj_V) (M : mj_M) : Option mj_St := match st with
  | (1, x) :: r => some (pc + 1, ls, (1, x) :: (1, x) :: r, M)
  | v :: w :: r => if v.1 = 1 ∨ v.1 = 9 ∨ w.1 = 1 ∨ w.1 = 9 then none else some (pc + 1, ls, v :: w :: v :: w :: r, M)
  | _ => none
def mj_pop (pc : Nat) (ls st : List mj_V) (M : mj_M) : Option mj_St := match st with
  | v :: r => if v.1 = 1 ∨ v.1 = 9 then none else some (pc + 1, ls, r, M)
  | _ => none
def mj_cast (c idx pc : Nat) (ls st : List mj_V) (M : mj_M) : Option mj_St := match st with
  | (3, x) :: r => if c = 16 ∧ idx = 317 ∧ x ≠ 0 then some (pc + 3, ls, (3, x) :: r, M) else none
  | _ => none
/-- words of a stack -/
def mj_cs (st : List mj_V) : Nat := (st.map fun v => if v.1 = 1 then 2 else 1).sum
/-- Object's maker (0), arraycopy (4), clone of a row of ints (c = 16, idx = 316) -/
def mj_oin (pc : Nat) (ls st : List mj_V) (M : mj_M) : Option mj_St := match st with
  | (t, x) :: r => if 20 ≤ t ∧ x ≠ 0 ∧ mj_cs r ≤ 8 then some (pc + 3, ls, r, M) else none
  | _ => none
def mj_acp (pc : Nat) (ls st : List mj_V) (M : mj_M) : Option mj_St := match st with
  | (0, n) :: (0, dp) :: (3, b) :: (0, sp) :: (3, a) :: r => if a ≠ 0 ∧ b ≠ 0 ∧ 0 ≤ n ∧ 0 ≤ dp ∧ 0 ≤ sp ∧ sp + n ≤ M.2.2.2.1 a ∧ dp + n ≤ M.2.2.2.1 b ∧ mj_cs r ≤ 8 then some (pc + 3, ls, r, mj_cp M a sp b dp n) else none
  | _ => none
def mj_cln (pc : Nat) (ls st : List mj_V) (M : mj_M) : Option mj_St := match st with
  | (3, x) :: r => if x ≠ 0 ∧ mj_cs r ≤ 8 then some (pc + 3, ls, (3, (M.1 : Int) + 1) :: r, mj_nw M 3 (M.2.2.2.1 x) (fun j => M.2.2.2.2 x j)) else none
  | _ => none
def mj_step (X : mj_X) (k pc : Nat) (op : Instr) (ln : Nat) (ls st : List mj_V) (M : mj_M) : Option mj_St :=
  match op with
  | .iconst n => mj_k (pc + 1) ls st M (0, (Int32.ofInt n).toInt)
  | .bipush n => mj_k (pc + 2) ls st M (0, (Int8.ofInt n).toInt32.toInt)
  | .sipush n => mj_k (pc + 3) ls st M (0, (Int16.ofInt n).toInt32.toInt)
  | .lconst n => mj_k (pc + 1) ls st M (1, (Int64.ofNat (n : Nat)).toInt)
  | .aconst_null => mj_k (pc + 1) ls st M (2, 0)
  | .ldc i => mj_ldc (mj_mi k).1 i 2 pc ls st M
  | .ldc_w i => mj_ldc (mj_mi k).1 i 3 pc ls st M
  | .ldc2_w i => mj_ldc (mj_mi k).1 i 4 pc ls st M
  | .iload i => mj_ild i (pc + 2) ls st M
  | .iload_n i => mj_ild i (pc + 1) ls st M
  | .lload i => mj_lld i (pc + 2) ls st M
  | .lload_n i => mj_lld i (pc + 1) ls st M
  | .aload i => mj_ald i (pc + 2) ls st M
  | .aload_n i => mj_ald i (pc + 1) ls st M
  | .istore i => mj_ist i (pc + 2) ls st M
  | .istore_n i => mj_ist i (pc + 1) ls st M
  | .lstore i => mj_lst i (pc + 2) ls st M
  | .lstore_n i => mj_lst i (pc + 1) ls st M
  | .astore i => mj_ast i (pc + 2) ls st M
  | .astore_n i => mj_ast i (pc + 1) ls st M
  | .iinc i n => mj_inc i n (pc + 3) ls st M
  | .iaload => mj_iald X pc ls st M
  | .laload => mj_lald pc ls st M
  | .baload => mj_bald pc ls st M
  | .aaload => mj_aald pc ls st M
  | .iastore => mj_iast pc ls st M
  | .lastore => mj_last pc ls st M
  | .bastore => mj_bast pc ls st M
  | .aastore => mj_aast pc ls st M
  | .arraylength => mj_alen X pc ls st M
  | .pop => mj_pop pc ls st M
  | .dup => mj_dup pc ls st M
  | .dup2 => mj_dup2 pc ls st M
  | .iadd => mj_i2 ji_add (pc + 1) ls st M
  | .isub => mj_i2 ji_sub (pc + 1) ls st M
  | .imul => mj_i2 ji_mul (pc + 1) ls st M
  | .idiv => mj_i2d ji_div (pc + 1) ls st M
  | .irem => mj_i2d ji_rem (pc + 1) ls st M
  | .ineg => mj_i1 ji_neg (pc + 1) ls st M
  | .ishl => mj_i2 ji_shl (pc + 1) ls st M
  | .ishr => mj_i2 ji_shr (pc + 1) ls st M
  | .iushr => mj_i2 ji_ushr (pc + 1) ls st M
  | .iand => mj_i2 ji_and (pc + 1) ls st M
  | .ior => mj_i2 ji_or (pc + 1) ls st M
  | .ixor => mj_i2 ji_xor (pc + 1) ls st M
  | .ladd => mj_l2 jl_add (pc + 1) ls st M
  | .lsub => mj_l2 jl_sub (pc + 1) ls st M
  | .lmul => mj_l2 jl_mul (pc + 1) ls st M
  | .ldiv => mj_l2d jl_div (pc + 1) ls st M
  | .lrem => mj_l2d jl_rem (pc + 1) ls st M
  | .lneg => mj_l1 jl_neg (pc + 1) ls st M
  | .lshl => mj_ls jl_shl (pc + 1) ls st M
  | .lshr => mj_ls jl_shr (pc + 1) ls st M
  | .land => mj_l2 jl_and (pc + 1) ls st M
  | .lor => mj_l2 jl_or (pc + 1) ls st M
  | .i2l => mj_il ji_2l (pc + 1) ls st M
  | .l2i => mj_li jl_2i (pc + 1) ls st M
  | .i2c => mj_i1 ji_2c (pc + 1) ls st M
  | .i2b => mj_i1 ji_2b (pc + 1) ls st M
  | .lcmp => mj_lci (pc + 1) ls st M
  | .ifCond c off => mj_if c pc off ls st M
  | .if_icmp c off => mj_ifc c pc off ls st M
  | .ifnull off => mj_ifn true pc off ls st M
  | .ifnonnull off => mj_ifn false pc off ls st M
  | .goto off => mj_to pc off ls st M
  | .tableswitch d lo hi offs => mj_tsw d lo hi offs pc ls st M
  | .lookupswitch d ps => mj_lsw d ps pc ls st M
  | .getfield i => mj_get (mj_mi k).1 i pc ls st M
  | .putfield i => mj_put k (mj_mi k).1 i pc ls st M
  | .getstatic i => mj_gst (mj_mi k).1 i pc ls st M
  | .new i => mj_new (mj_mi k).1 i pc ls st M
  | .newarray a => mj_newa a pc ls st M
  | .anewarray i => mj_newq (mj_mi k).1 i pc ls st M
  | .checkcast i => mj_cast (mj_mi k).1 i pc ls st M
  | .invokespecial i => (match mj_lk (mj_mi k).1 i with
    | some (0, _) => mj_oin pc ls st M
    | _ => none)
  | .invokestatic i => (match mj_lk (mj_mi k).1 i with
    | some (4, _) => mj_acp pc ls st M
    | _ => none)
  | .invokevirtual i => if (mj_mi k).1 = 16 ∧ i = 316 then mj_cln pc ls st M else none
  | _ => none
/-- a return: what it gives -/
def mj_ret (rt : Nat) (op : Instr) (st : List mj_V) : Option (Option mj_V) := match op with
  | .return_ => (match st with
    | [] => if rt = 0 then some none else none
    | _ => none)
  | .ireturn => (match st with
    | [(0, x)] => if rt = 1 ∨ (rt = 2 ∧ (x = 0 ∨ x = 1)) ∨ (rt = 3 ∧ 0 ≤ x ∧ x < 65536) ∨ (rt = 5 ∧ -128 ≤ x ∧ x < 128) then some (some (0, x)) else none
    | _ => none)
  | .lreturn => (match st with
    | [(1, x)] => if rt = 4 then some (some (1, x)) else none
    | _ => none)
  | .areturn => (match st with
    | [v] => if rt < 103 then none else (mj_nrm (rt - 100) v).map some
    | _ => none)
  | _ => none
/-- a call of a method of the table: which -/
def mj_call (c : Nat) (op : Instr) : Option Nat := match op with
  | .invokespecial i => (match mj_lk c i with
    | some (1, j) => some j
    | some (6, j) => some j
    | _ => none)
  | .invokevirtual i => (match mj_lk c i with
    | some (2, j) => some j
    | _ => none)
  | .invokestatic i => (match mj_lk c i with
    | some (3, j) => some j
    | some (5, j) => some j
    | _ => none)
  | _ => none
def mj_args : List Nat → List mj_V → Option (List mj_V)
  | [], [] => some []
  | t :: ts, v :: vs => (match mj_nrm t v, mj_args ts vs with
    | some w, some ws => some (w :: ws)
    | _, _ => none)
  | _, _ => none
def mj_ent1 : List mj_V → List mj_V
  | [] => []
  | v :: vs => if v.1 = 1 then v :: (9, 0) :: mj_ent1 vs else v :: mj_ent1 vs
def mj_ent (n : Nat) (vs : List mj_V) : List mj_V := mj_ent1 vs ++ List.replicate (n - (mj_ent1 vs).length) (9, 0)
/-- is a receiver wanted, and there? -/
def mj_rcv (op : Instr) (as : List mj_V) : Bool := match op with
  | .invokestatic _ => true
  | _ => (match as with
    | (t, x) :: _ => Nat.beq t 10 || (Nat.ble 20 t && !decide (x = 0))
    | _ => false)
/-- the run: fuel, depth, method, place -/
def mj_x (X : mj_X) : Nat → Nat → Nat → Nat → List mj_V → List mj_V → mj_M → Option (Option mj_V × mj_M)
  | 0, _, _, _, _, _, _ => none
  | n + 1, d, k, pc, ls, st, M =>
    match mj_ins k pc with
    | none => none
    | some (op, ln) =>
      match mj_call (mj_mi k).1 op with
      | some j =>
        match d with
        | 0 => none
        | d' + 1 =>
          match mj_args (mj_mi j).2.2.1 (st.take (mj_mi j).2.2.1.length).reverse with
          | none => none
          | some as =>
            if (mj_rcv op as = true ∧ mj_cs (st.drop (mj_mi j).2.2.1.length) ≤ 8 ∧ (mj_ent1 as).length ≤ (mj_mi j).2.1) then
              match mj_x X n d' j 0 (mj_ent (mj_mi j).2.1 as) [] M with
              | none => none
              | some (r, M') => mj_x X n (d' + 1) k (pc + 3) ls (r.toList ++ st.drop (mj_mi j).2.2.1.length) M'
            else none
      | none =>
        match mj_ret (mj_mi k).2.2.2.1 op st with
        | some r => some (r, M)
        | none =>
          match mj_step X k pc op ln ls st M with
          | none => none
          | some s => mj_x X n d k s.1 s.2.1 s.2.2.1 s.2.2.2
