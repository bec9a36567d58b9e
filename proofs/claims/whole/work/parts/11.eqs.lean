/-! rows that unfold wp, one an instruction; kinds and lengths of the cells -/
section WE
variable {n : Nat} {mi : MI} {P : Option Value → Mm → Prop} {es : List Ent} {pc len : Nat} {inf : List Nat} {cst : Int} {lv : LVs} {st : List Value} {M : Mm}
theorem w_nil : wp n mi P [] pc lv st M = J n mi pc lv st M P := rfl
theorem w_iadd {x y : Int32} : wp n mi P ((.iadd, len, inf, cst) :: es) pc lv (.int y :: .int x :: st) M = (wp n mi P es (pc + len) lv (.int (x + y) :: st) M) := id rfl
theorem w_isub {x y : Int32} : wp n mi P ((.isub, len, inf, cst) :: es) pc lv (.int y :: .int x :: st) M = (wp n mi P es (pc + len) lv (.int (x - y) :: st) M) := id rfl
theorem w_imul {x y : Int32} : wp n mi P ((.imul, len, inf, cst) :: es) pc lv (.int y :: .int x :: st) M = (wp n mi P es (pc + len) lv (.int (x * y) :: st) M) := id rfl
theorem w_iand {x y : Int32} : wp n mi P ((.iand, len, inf, cst) :: es) pc lv (.int y :: .int x :: st) M = (wp n mi P es (pc + len) lv (.int (x &&& y) :: st) M) := id rfl
theorem w_ior {x y : Int32} : wp n mi P ((.ior, len, inf, cst) :: es) pc lv (.int y :: .int x :: st) M = (wp n mi P es (pc + len) lv (.int (x ||| y) :: st) M) := id rfl
theorem w_ixor {x y : Int32} : wp n mi P ((.ixor, len, inf, cst) :: es) pc lv (.int y :: .int x :: st) M = (wp n mi P es (pc + len) lv (.int (x ^^^ y) :: st) M) := id rfl
theorem w_ishl {x y : Int32} : wp n mi P ((.ishl, len, inf, cst) :: es) pc lv (.int y :: .int x :: st) M = (wp n mi P es (pc + len) lv (.int (x <<< (y &&& 31)) :: st) M) := id rfl
theorem w_ishr {x y : Int32} : wp n mi P ((.ishr, len, inf, cst) :: es) pc lv (.int y :: .int x :: st) M = (wp n mi P es (pc + len) lv (.int (x >>> (y &&& 31)) :: st) M) := id rfl
theorem w_iushr {x y : Int32} : wp n mi P ((.iushr, len, inf, cst) :: es) pc lv (.int y :: .int x :: st) M = (wp n mi P es (pc + len) lv (.int ((x.toUInt32 >>> (y.toUInt32 &&& Int32.toUInt32 31)).toInt32) :: st) M) := id rfl
theorem w_idiv {x y : Int32} : wp n mi P ((.idiv, len, inf, cst) :: es) pc lv (.int y :: .int x :: st) M = ((¬ y = 0) ∧ wp n mi P es (pc + len) lv (.int (x / y) :: st) M) := id rfl
theorem w_irem {x y : Int32} : wp n mi P ((.irem, len, inf, cst) :: es) pc lv (.int y :: .int x :: st) M = ((¬ y = 0) ∧ wp n mi P es (pc + len) lv (.int (x - x / y * y) :: st) M) := id rfl
theorem w_ladd {x y : Int64} : wp n mi P ((.ladd, len, inf, cst) :: es) pc lv (.long y :: .long x :: st) M = (wp n mi P es (pc + len) lv (.long (x + y) :: st) M) := id rfl
theorem w_lmul {x y : Int64} : wp n mi P ((.lmul, len, inf, cst) :: es) pc lv (.long y :: .long x :: st) M = (wp n mi P es (pc + len) lv (.long (x * y) :: st) M) := id rfl
theorem w_land {x y : Int64} : wp n mi P ((.land, len, inf, cst) :: es) pc lv (.long y :: .long x :: st) M = (wp n mi P es (pc + len) lv (.long (x &&& y) :: st) M) := id rfl
theorem w_lor {x y : Int64} : wp n mi P ((.lor, len, inf, cst) :: es) pc lv (.long y :: .long x :: st) M = (wp n mi P es (pc + len) lv (.long (x ||| y) :: st) M) := id rfl
theorem w_ldiv {x y : Int64} : wp n mi P ((.ldiv, len, inf, cst) :: es) pc lv (.long y :: .long x :: st) M = ((¬ y = 0) ∧ wp n mi P es (pc + len) lv (.long (x / y) :: st) M) := id rfl
theorem w_lrem {x y : Int64} : wp n mi P ((.lrem, len, inf, cst) :: es) pc lv (.long y :: .long x :: st) M = ((¬ y = 0) ∧ wp n mi P es (pc + len) lv (.long (x - x / y * y) :: st) M) := id rfl
theorem w_lushr {x : Int64} {y : Int32} : wp n mi P ((.lushr, len, inf, cst) :: es) pc lv (.int y :: .long x :: st) M = (wp n mi P es (pc + len) lv (.long (x.toUInt64 >>> (y.toInt64.toUInt64 &&& Int64.toUInt64 63)).toInt64 :: st) M) := id rfl
theorem w_lshl {x : Int64} {y : Int32} : wp n mi P ((.lshl, len, inf, cst) :: es) pc lv (.int y :: .long x :: st) M = (wp n mi P es (pc + len) lv (.long (x <<< (y.toInt64 &&& 63)) :: st) M) := id rfl
theorem w_lshr {x : Int64} {y : Int32} : wp n mi P ((.lshr, len, inf, cst) :: es) pc lv (.int y :: .long x :: st) M = (wp n mi P es (pc + len) lv (.long (x >>> (y.toInt64 &&& 63)) :: st) M) := id rfl
theorem w_lcmp {x y : Int64} : wp n mi P ((.lcmp, len, inf, cst) :: es) pc lv (.long y :: .long x :: st) M = (wp n mi P es (pc + len) lv (.int (lg_cmp x y) :: st) M) := id rfl
theorem w_i2l {x : Int32} : wp n mi P ((.i2l, len, inf, cst) :: es) pc lv (.int x :: st) M = (wp n mi P es (pc + len) lv (.long x.toInt64 :: st) M) := id rfl
theorem w_l2i {x : Int64} : wp n mi P ((.l2i, len, inf, cst) :: es) pc lv (.long x :: st) M = (wp n mi P es (pc + len) lv (.int x.toInt32 :: st) M) := id rfl
theorem w_i2b {x : Int32} : wp n mi P ((.i2b, len, inf, cst) :: es) pc lv (.int x :: st) M = (wp n mi P es (pc + len) lv (.int x.toInt8.toInt32 :: st) M) := id rfl
theorem w_i2s {x : Int32} : wp n mi P ((.i2s, len, inf, cst) :: es) pc lv (.int x :: st) M = (wp n mi P es (pc + len) lv (.int x.toInt16.toInt32 :: st) M) := id rfl
theorem w_i2c {x : Int32} : wp n mi P ((.i2c, len, inf, cst) :: es) pc lv (.int x :: st) M = (wp n mi P es (pc + len) lv (.int (x.toUInt32 % 65536).toInt32 :: st) M) := id rfl
theorem w_dup_i {x : Int32} : wp n mi P ((.dup, len, inf, cst) :: es) pc lv (.int x :: st) M = (wp n mi P es (pc + len) lv (.int x :: .int x :: st) M) := id rfl
theorem w_dup_a {x : Nat} : wp n mi P ((.dup, len, inf, cst) :: es) pc lv (.ref x :: st) M = (wp n mi P es (pc + len) lv (.ref x :: .ref x :: st) M) := id rfl
theorem w_pop_i {x : Int32} : wp n mi P ((.pop, len, inf, cst) :: es) pc lv (.int x :: st) M = (wp n mi P es (pc + len) lv (st) M) := id rfl
theorem w_pop_a {x : Nat} : wp n mi P ((.pop, len, inf, cst) :: es) pc lv (.ref x :: st) M = (wp n mi P es (pc + len) lv (st) M) := id rfl
theorem w_dup2_ia {x : Int32} {y : Nat} : wp n mi P ((.dup2, len, inf, cst) :: es) pc lv (.int x :: .ref y :: st) M = (wp n mi P es (pc + len) lv (.int x :: .ref y :: .int x :: .ref y :: st) M) := id rfl
theorem w_iconst_m1  : wp n mi P ((.iconst (-1), len, inf, cst) :: es) pc lv (st) M = (wp n mi P es (pc + len) lv (.int (-1) :: st) M) := id rfl
theorem w_iconst_0  : wp n mi P ((.iconst 0, len, inf, cst) :: es) pc lv (st) M = (wp n mi P es (pc + len) lv (.int 0 :: st) M) := id rfl
theorem w_iconst_1  : wp n mi P ((.iconst 1, len, inf, cst) :: es) pc lv (st) M = (wp n mi P es (pc + len) lv (.int 1 :: st) M) := id rfl
theorem w_iconst_2  : wp n mi P ((.iconst 2, len, inf, cst) :: es) pc lv (st) M = (wp n mi P es (pc + len) lv (.int 2 :: st) M) := id rfl
theorem w_iconst_3  : wp n mi P ((.iconst 3, len, inf, cst) :: es) pc lv (st) M = (wp n mi P es (pc + len) lv (.int 3 :: st) M) := id rfl
theorem w_iconst_4  : wp n mi P ((.iconst 4, len, inf, cst) :: es) pc lv (st) M = (wp n mi P es (pc + len) lv (.int 4 :: st) M) := id rfl
theorem w_iconst_5  : wp n mi P ((.iconst 5, len, inf, cst) :: es) pc lv (st) M = (wp n mi P es (pc + len) lv (.int 5 :: st) M) := id rfl
theorem w_bipush {z : Int} : wp n mi P ((.bipush z, len, inf, cst) :: es) pc lv (st) M = (wp n mi P es (pc + len) lv (.int (Int32.ofInt z) :: st) M) := id rfl
theorem w_sipush {z : Int} : wp n mi P ((.sipush z, len, inf, cst) :: es) pc lv (st) M = (wp n mi P es (pc + len) lv (.int (Int32.ofInt z) :: st) M) := id rfl
theorem w_lconst_0  : wp n mi P ((.lconst 0, len, inf, cst) :: es) pc lv (st) M = (wp n mi P es (pc + len) lv (.long 0 :: st) M) := id rfl
theorem w_lconst_1  : wp n mi P ((.lconst 1, len, inf, cst) :: es) pc lv (st) M = (wp n mi P es (pc + len) lv (.long 1 :: st) M) := id rfl
theorem w_iload_n0  {x : Int32} : wp n mi P ((.iload_n 0, len, inf, cst) :: es) pc (some (.int x) :: lv) (st) M = (wp n mi P es (pc + len) (some (.int x) :: lv) (.int x :: st) M) := id rfl
theorem w_iload_n1 {a0 : Option Value} {x : Int32} : wp n mi P ((.iload_n 1, len, inf, cst) :: es) pc (a0 :: some (.int x) :: lv) (st) M = (wp n mi P es (pc + len) (a0 :: some (.int x) :: lv) (.int x :: st) M) := id rfl
theorem w_iload_n2 {a0 a1 : Option Value} {x : Int32} : wp n mi P ((.iload_n 2, len, inf, cst) :: es) pc (a0 :: a1 :: some (.int x) :: lv) (st) M = (wp n mi P es (pc + len) (a0 :: a1 :: some (.int x) :: lv) (.int x :: st) M) := id rfl
theorem w_iload_n3 {a0 a1 a2 : Option Value} {x : Int32} : wp n mi P ((.iload_n 3, len, inf, cst) :: es) pc (a0 :: a1 :: a2 :: some (.int x) :: lv) (st) M = (wp n mi P es (pc + len) (a0 :: a1 :: a2 :: some (.int x) :: lv) (.int x :: st) M) := id rfl
theorem w_iload4 {a0 a1 a2 a3 : Option Value} {x : Int32} : wp n mi P ((.iload 4, len, inf, cst) :: es) pc (a0 :: a1 :: a2 :: a3 :: some (.int x) :: lv) (st) M = (wp n mi P es (pc + len) (a0 :: a1 :: a2 :: a3 :: some (.int x) :: lv) (.int x :: st) M) := id rfl
theorem w_iload5 {a0 a1 a2 a3 a4 : Option Value} {x : Int32} : wp n mi P ((.iload 5, len, inf, cst) :: es) pc (a0 :: a1 :: a2 :: a3 :: a4 :: some (.int x) :: lv) (st) M = (wp n mi P es (pc + len) (a0 :: a1 :: a2 :: a3 :: a4 :: some (.int x) :: lv) (.int x :: st) M) := id rfl
theorem w_iload6 {a0 a1 a2 a3 a4 a5 : Option Value} {x : Int32} : wp n mi P ((.iload 6, len, inf, cst) :: es) pc (a0 :: a1 :: a2 :: a3 :: a4 :: a5 :: some (.int x) :: lv) (st) M = (wp n mi P es (pc + len) (a0 :: a1 :: a2 :: a3 :: a4 :: a5 :: some (.int x) :: lv) (.int x :: st) M) := id rfl
theorem w_iload7 {a0 a1 a2 a3 a4 a5 a6 : Option Value} {x : Int32} : wp n mi P ((.iload 7, len, inf, cst) :: es) pc (a0 :: a1 :: a2 :: a3 :: a4 :: a5 :: a6 :: some (.int x) :: lv) (st) M = (wp n mi P es (pc + len) (a0 :: a1 :: a2 :: a3 :: a4 :: a5 :: a6 :: some (.int x) :: lv) (.int x :: st) M) := id rfl
theorem w_iload8 {a0 a1 a2 a3 a4 a5 a6 a7 : Option Value} {x : Int32} : wp n mi P ((.iload 8, len, inf, cst) :: es) pc (a0 :: a1 :: a2 :: a3 :: a4 :: a5 :: a6 :: a7 :: some (.int x) :: lv) (st) M = (wp n mi P es (pc + len) (a0 :: a1 :: a2 :: a3 :: a4 :: a5 :: a6 :: a7 :: some (.int x) :: lv) (.int x :: st) M) := id rfl
theorem w_iload9 {a0 a1 a2 a3 a4 a5 a6 a7 a8 : Option Value} {x : Int32} : wp n mi P ((.iload 9, len, inf, cst) :: es) pc (a0 :: a1 :: a2 :: a3 :: a4 :: a5 :: a6 :: a7 :: a8 :: some (.int x) :: lv) (st) M = (wp n mi P es (pc + len) (a0 :: a1 :: a2 :: a3 :: a4 :: a5 :: a6 :: a7 :: a8 :: some (.int x) :: lv) (.int x :: st) M) := id rfl
theorem w_iload10 {a0 a1 a2 a3 a4 a5 a6 a7 a8 a9 : Option Value} {x : Int32} : wp n mi P ((.iload 10, len, inf, cst) :: es) pc (a0 :: a1 :: a2 :: a3 :: a4 :: a5 :: a6 :: a7 :: a8 :: a9 :: some (.int x) :: lv) (st) M = (wp n mi P es (pc + len) (a0 :: a1 :: a2 :: a3 :: a4 :: a5 :: a6 :: a7 :: a8 :: a9 :: some (.int x) :: lv) (.int x :: st) M) := id rfl
theorem w_iload11 {a0 a1 a2 a3 a4 a5 a6 a7 a8 a9 a10 : Option Value} {x : Int32} : wp n mi P ((.iload 11, len, inf, cst) :: es) pc (a0 :: a1 :: a2 :: a3 :: a4 :: a5 :: a6 :: a7 :: a8 :: a9 :: a10 :: some (.int x) :: lv) (st) M = (wp n mi P es (pc + len) (a0 :: a1 :: a2 :: a3 :: a4 :: a5 :: a6 :: a7 :: a8 :: a9 :: a10 :: some (.int x) :: lv) (.int x :: st) M) := id rfl
theorem w_iload12 {a0 a1 a2 a3 a4 a5 a6 a7 a8 a9 a10 a11 : Option Value} {x : Int32} : wp n mi P ((.iload 12, len, inf, cst) :: es) pc (a0 :: a1 :: a2 :: a3 :: a4 :: a5 :: a6 :: a7 :: a8 :: a9 :: a10 :: a11 :: some (.int x) :: lv) (st) M = (wp n mi P es (pc + len) (a0 :: a1 :: a2 :: a3 :: a4 :: a5 :: a6 :: a7 :: a8 :: a9 :: a10 :: a11 :: some (.int x) :: lv) (.int x :: st) M) := id rfl
theorem w_lload_n0  {x : Int64} : wp n mi P ((.lload_n 0, len, inf, cst) :: es) pc (some (.long x) :: lv) (st) M = (wp n mi P es (pc + len) (some (.long x) :: lv) (.long x :: st) M) := id rfl
theorem w_lload_n1 {a0 : Option Value} {x : Int64} : wp n mi P ((.lload_n 1, len, inf, cst) :: es) pc (a0 :: some (.long x) :: lv) (st) M = (wp n mi P es (pc + len) (a0 :: some (.long x) :: lv) (.long x :: st) M) := id rfl
theorem w_lload_n2 {a0 a1 : Option Value} {x : Int64} : wp n mi P ((.lload_n 2, len, inf, cst) :: es) pc (a0 :: a1 :: some (.long x) :: lv) (st) M = (wp n mi P es (pc + len) (a0 :: a1 :: some (.long x) :: lv) (.long x :: st) M) := id rfl
theorem w_lload_n3 {a0 a1 a2 : Option Value} {x : Int64} : wp n mi P ((.lload_n 3, len, inf, cst) :: es) pc (a0 :: a1 :: a2 :: some (.long x) :: lv) (st) M = (wp n mi P es (pc + len) (a0 :: a1 :: a2 :: some (.long x) :: lv) (.long x :: st) M) := id rfl
theorem w_lload4 {a0 a1 a2 a3 : Option Value} {x : Int64} : wp n mi P ((.lload 4, len, inf, cst) :: es) pc (a0 :: a1 :: a2 :: a3 :: some (.long x) :: lv) (st) M = (wp n mi P es (pc + len) (a0 :: a1 :: a2 :: a3 :: some (.long x) :: lv) (.long x :: st) M) := id rfl
theorem w_lload5 {a0 a1 a2 a3 a4 : Option Value} {x : Int64} : wp n mi P ((.lload 5, len, inf, cst) :: es) pc (a0 :: a1 :: a2 :: a3 :: a4 :: some (.long x) :: lv) (st) M = (wp n mi P es (pc + len) (a0 :: a1 :: a2 :: a3 :: a4 :: some (.long x) :: lv) (.long x :: st) M) := id rfl
theorem w_lload6 {a0 a1 a2 a3 a4 a5 : Option Value} {x : Int64} : wp n mi P ((.lload 6, len, inf, cst) :: es) pc (a0 :: a1 :: a2 :: a3 :: a4 :: a5 :: some (.long x) :: lv) (st) M = (wp n mi P es (pc + len) (a0 :: a1 :: a2 :: a3 :: a4 :: a5 :: some (.long x) :: lv) (.long x :: st) M) := id rfl
theorem w_lload7 {a0 a1 a2 a3 a4 a5 a6 : Option Value} {x : Int64} : wp n mi P ((.lload 7, len, inf, cst) :: es) pc (a0 :: a1 :: a2 :: a3 :: a4 :: a5 :: a6 :: some (.long x) :: lv) (st) M = (wp n mi P es (pc + len) (a0 :: a1 :: a2 :: a3 :: a4 :: a5 :: a6 :: some (.long x) :: lv) (.long x :: st) M) := id rfl
theorem w_lload8 {a0 a1 a2 a3 a4 a5 a6 a7 : Option Value} {x : Int64} : wp n mi P ((.lload 8, len, inf, cst) :: es) pc (a0 :: a1 :: a2 :: a3 :: a4 :: a5 :: a6 :: a7 :: some (.long x) :: lv) (st) M = (wp n mi P es (pc + len) (a0 :: a1 :: a2 :: a3 :: a4 :: a5 :: a6 :: a7 :: some (.long x) :: lv) (.long x :: st) M) := id rfl
theorem w_lload9 {a0 a1 a2 a3 a4 a5 a6 a7 a8 : Option Value} {x : Int64} : wp n mi P ((.lload 9, len, inf, cst) :: es) pc (a0 :: a1 :: a2 :: a3 :: a4 :: a5 :: a6 :: a7 :: a8 :: some (.long x) :: lv) (st) M = (wp n mi P es (pc + len) (a0 :: a1 :: a2 :: a3 :: a4 :: a5 :: a6 :: a7 :: a8 :: some (.long x) :: lv) (.long x :: st) M) := id rfl
theorem w_lload10 {a0 a1 a2 a3 a4 a5 a6 a7 a8 a9 : Option Value} {x : Int64} : wp n mi P ((.lload 10, len, inf, cst) :: es) pc (a0 :: a1 :: a2 :: a3 :: a4 :: a5 :: a6 :: a7 :: a8 :: a9 :: some (.long x) :: lv) (st) M = (wp n mi P es (pc + len) (a0 :: a1 :: a2 :: a3 :: a4 :: a5 :: a6 :: a7 :: a8 :: a9 :: some (.long x) :: lv) (.long x :: st) M) := id rfl
theorem w_lload11 {a0 a1 a2 a3 a4 a5 a6 a7 a8 a9 a10 : Option Value} {x : Int64} : wp n mi P ((.lload 11, len, inf, cst) :: es) pc (a0 :: a1 :: a2 :: a3 :: a4 :: a5 :: a6 :: a7 :: a8 :: a9 :: a10 :: some (.long x) :: lv) (st) M = (wp n mi P es (pc + len) (a0 :: a1 :: a2 :: a3 :: a4 :: a5 :: a6 :: a7 :: a8 :: a9 :: a10 :: some (.long x) :: lv) (.long x :: st) M) := id rfl
theorem w_lload12 {a0 a1 a2 a3 a4 a5 a6 a7 a8 a9 a10 a11 : Option Value} {x : Int64} : wp n mi P ((.lload 12, len, inf, cst) :: es) pc (a0 :: a1 :: a2 :: a3 :: a4 :: a5 :: a6 :: a7 :: a8 :: a9 :: a10 :: a11 :: some (.long x) :: lv) (st) M = (wp n mi P es (pc + len) (a0 :: a1 :: a2 :: a3 :: a4 :: a5 :: a6 :: a7 :: a8 :: a9 :: a10 :: a11 :: some (.long x) :: lv) (.long x :: st) M) := id rfl
theorem w_aload_n0  {x : Nat} : wp n mi P ((.aload_n 0, len, inf, cst) :: es) pc (some (.ref x) :: lv) (st) M = (wp n mi P es (pc + len) (some (.ref x) :: lv) (.ref x :: st) M) := id rfl
theorem w_aload_n1 {a0 : Option Value} {x : Nat} : wp n mi P ((.aload_n 1, len, inf, cst) :: es) pc (a0 :: some (.ref x) :: lv) (st) M = (wp n mi P es (pc + len) (a0 :: some (.ref x) :: lv) (.ref x :: st) M) := id rfl
theorem w_aload_n2 {a0 a1 : Option Value} {x : Nat} : wp n mi P ((.aload_n 2, len, inf, cst) :: es) pc (a0 :: a1 :: some (.ref x) :: lv) (st) M = (wp n mi P es (pc + len) (a0 :: a1 :: some (.ref x) :: lv) (.ref x :: st) M) := id rfl
theorem w_aload_n3 {a0 a1 a2 : Option Value} {x : Nat} : wp n mi P ((.aload_n 3, len, inf, cst) :: es) pc (a0 :: a1 :: a2 :: some (.ref x) :: lv) (st) M = (wp n mi P es (pc + len) (a0 :: a1 :: a2 :: some (.ref x) :: lv) (.ref x :: st) M) := id rfl
theorem w_aload4 {a0 a1 a2 a3 : Option Value} {x : Nat} : wp n mi P ((.aload 4, len, inf, cst) :: es) pc (a0 :: a1 :: a2 :: a3 :: some (.ref x) :: lv) (st) M = (wp n mi P es (pc + len) (a0 :: a1 :: a2 :: a3 :: some (.ref x) :: lv) (.ref x :: st) M) := id rfl
theorem w_aload5 {a0 a1 a2 a3 a4 : Option Value} {x : Nat} : wp n mi P ((.aload 5, len, inf, cst) :: es) pc (a0 :: a1 :: a2 :: a3 :: a4 :: some (.ref x) :: lv) (st) M = (wp n mi P es (pc + len) (a0 :: a1 :: a2 :: a3 :: a4 :: some (.ref x) :: lv) (.ref x :: st) M) := id rfl
theorem w_aload6 {a0 a1 a2 a3 a4 a5 : Option Value} {x : Nat} : wp n mi P ((.aload 6, len, inf, cst) :: es) pc (a0 :: a1 :: a2 :: a3 :: a4 :: a5 :: some (.ref x) :: lv) (st) M = (wp n mi P es (pc + len) (a0 :: a1 :: a2 :: a3 :: a4 :: a5 :: some (.ref x) :: lv) (.ref x :: st) M) := id rfl
theorem w_aload7 {a0 a1 a2 a3 a4 a5 a6 : Option Value} {x : Nat} : wp n mi P ((.aload 7, len, inf, cst) :: es) pc (a0 :: a1 :: a2 :: a3 :: a4 :: a5 :: a6 :: some (.ref x) :: lv) (st) M = (wp n mi P es (pc + len) (a0 :: a1 :: a2 :: a3 :: a4 :: a5 :: a6 :: some (.ref x) :: lv) (.ref x :: st) M) := id rfl
theorem w_aload8 {a0 a1 a2 a3 a4 a5 a6 a7 : Option Value} {x : Nat} : wp n mi P ((.aload 8, len, inf, cst) :: es) pc (a0 :: a1 :: a2 :: a3 :: a4 :: a5 :: a6 :: a7 :: some (.ref x) :: lv) (st) M = (wp n mi P es (pc + len) (a0 :: a1 :: a2 :: a3 :: a4 :: a5 :: a6 :: a7 :: some (.ref x) :: lv) (.ref x :: st) M) := id rfl
theorem w_aload9 {a0 a1 a2 a3 a4 a5 a6 a7 a8 : Option Value} {x : Nat} : wp n mi P ((.aload 9, len, inf, cst) :: es) pc (a0 :: a1 :: a2 :: a3 :: a4 :: a5 :: a6 :: a7 :: a8 :: some (.ref x) :: lv) (st) M = (wp n mi P es (pc + len) (a0 :: a1 :: a2 :: a3 :: a4 :: a5 :: a6 :: a7 :: a8 :: some (.ref x) :: lv) (.ref x :: st) M) := id rfl
theorem w_aload10 {a0 a1 a2 a3 a4 a5 a6 a7 a8 a9 : Option Value} {x : Nat} : wp n mi P ((.aload 10, len, inf, cst) :: es) pc (a0 :: a1 :: a2 :: a3 :: a4 :: a5 :: a6 :: a7 :: a8 :: a9 :: some (.ref x) :: lv) (st) M = (wp n mi P es (pc + len) (a0 :: a1 :: a2 :: a3 :: a4 :: a5 :: a6 :: a7 :: a8 :: a9 :: some (.ref x) :: lv) (.ref x :: st) M) := id rfl
theorem w_aload11 {a0 a1 a2 a3 a4 a5 a6 a7 a8 a9 a10 : Option Value} {x : Nat} : wp n mi P ((.aload 11, len, inf, cst) :: es) pc (a0 :: a1 :: a2 :: a3 :: a4 :: a5 :: a6 :: a7 :: a8 :: a9 :: a10 :: some (.ref x) :: lv) (st) M = (wp n mi P es (pc + len) (a0 :: a1 :: a2 :: a3 :: a4 :: a5 :: a6 :: a7 :: a8 :: a9 :: a10 :: some (.ref x) :: lv) (.ref x :: st) M) := id rfl
theorem w_aload12 {a0 a1 a2 a3 a4 a5 a6 a7 a8 a9 a10 a11 : Option Value} {x : Nat} : wp n mi P ((.aload 12, len, inf, cst) :: es) pc (a0 :: a1 :: a2 :: a3 :: a4 :: a5 :: a6 :: a7 :: a8 :: a9 :: a10 :: a11 :: some (.ref x) :: lv) (st) M = (wp n mi P es (pc + len) (a0 :: a1 :: a2 :: a3 :: a4 :: a5 :: a6 :: a7 :: a8 :: a9 :: a10 :: a11 :: some (.ref x) :: lv) (.ref x :: st) M) := id rfl
theorem w_istore0  {b : Option Value} {x : Int32} : wp n mi P ((.istore_n 0, len, inf, cst) :: es) pc (b :: lv) (.int x :: st) M = (nl (b :: lv) 0 ∧ wp n mi P es (pc + len) (some (.int x) :: lv) (st) M) := id rfl
theorem w_istore1 {a0 : Option Value} {b : Option Value} {x : Int32} : wp n mi P ((.istore_n 1, len, inf, cst) :: es) pc (a0 :: b :: lv) (.int x :: st) M = (nl (a0 :: b :: lv) 1 ∧ wp n mi P es (pc + len) (a0 :: some (.int x) :: lv) (st) M) := id rfl
theorem w_istore2 {a0 a1 : Option Value} {b : Option Value} {x : Int32} : wp n mi P ((.istore_n 2, len, inf, cst) :: es) pc (a0 :: a1 :: b :: lv) (.int x :: st) M = (nl (a0 :: a1 :: b :: lv) 2 ∧ wp n mi P es (pc + len) (a0 :: a1 :: some (.int x) :: lv) (st) M) := id rfl
theorem w_istore3 {a0 a1 a2 : Option Value} {b : Option Value} {x : Int32} : wp n mi P ((.istore_n 3, len, inf, cst) :: es) pc (a0 :: a1 :: a2 :: b :: lv) (.int x :: st) M = (nl (a0 :: a1 :: a2 :: b :: lv) 3 ∧ wp n mi P es (pc + len) (a0 :: a1 :: a2 :: some (.int x) :: lv) (st) M) := id rfl
theorem w_istore4 {a0 a1 a2 a3 : Option Value} {b : Option Value} {x : Int32} : wp n mi P ((.istore 4, len, inf, cst) :: es) pc (a0 :: a1 :: a2 :: a3 :: b :: lv) (.int x :: st) M = (nl (a0 :: a1 :: a2 :: a3 :: b :: lv) 4 ∧ wp n mi P es (pc + len) (a0 :: a1 :: a2 :: a3 :: some (.int x) :: lv) (st) M) := id rfl
theorem w_istore5 {a0 a1 a2 a3 a4 : Option Value} {b : Option Value} {x : Int32} : wp n mi P ((.istore 5, len, inf, cst) :: es) pc (a0 :: a1 :: a2 :: a3 :: a4 :: b :: lv) (.int x :: st) M = (nl (a0 :: a1 :: a2 :: a3 :: a4 :: b :: lv) 5 ∧ wp n mi P es (pc + len) (a0 :: a1 :: a2 :: a3 :: a4 :: some (.int x) :: lv) (st) M) := id rfl
theorem w_istore6 {a0 a1 a2 a3 a4 a5 : Option Value} {b : Option Value} {x : Int32} : wp n mi P ((.istore 6, len, inf, cst) :: es) pc (a0 :: a1 :: a2 :: a3 :: a4 :: a5 :: b :: lv) (.int x :: st) M = (nl (a0 :: a1 :: a2 :: a3 :: a4 :: a5 :: b :: lv) 6 ∧ wp n mi P es (pc + len) (a0 :: a1 :: a2 :: a3 :: a4 :: a5 :: some (.int x) :: lv) (st) M) := id rfl
theorem w_istore7 {a0 a1 a2 a3 a4 a5 a6 : Option Value} {b : Option Value} {x : Int32} : wp n mi P ((.istore 7, len, inf, cst) :: es) pc (a0 :: a1 :: a2 :: a3 :: a4 :: a5 :: a6 :: b :: lv) (.int x :: st) M = (nl (a0 :: a1 :: a2 :: a3 :: a4 :: a5 :: a6 :: b :: lv) 7 ∧ wp n mi P es (pc + len) (a0 :: a1 :: a2 :: a3 :: a4 :: a5 :: a6 :: some (.int x) :: lv) (st) M) := id rfl
theorem w_istore8 {a0 a1 a2 a3 a4 a5 a6 a7 : Option Value} {b : Option Value} {x : Int32} : wp n mi P ((.istore 8, len, inf, cst) :: es) pc (a0 :: a1 :: a2 :: a3 :: a4 :: a5 :: a6 :: a7 :: b :: lv) (.int x :: st) M = (nl (a0 :: a1 :: a2 :: a3 :: a4 :: a5 :: a6 :: a7 :: b :: lv) 8 ∧ wp n mi P es (pc + len) (a0 :: a1 :: a2 :: a3 :: a4 :: a5 :: a6 :: a7 :: some (.int x) :: lv) (st) M) := id rfl
theorem w_istore9 {a0 a1 a2 a3 a4 a5 a6 a7 a8 : Option Value} {b : Option Value} {x : Int32} : wp n mi P ((.istore 9, len, inf, cst) :: es) pc (a0 :: a1 :: a2 :: a3 :: a4 :: a5 :: a6 :: a7 :: a8 :: b :: lv) (.int x :: st) M = (nl (a0 :: a1 :: a2 :: a3 :: a4 :: a5 :: a6 :: a7 :: a8 :: b :: lv) 9 ∧ wp n mi P es (pc + len) (a0 :: a1 :: a2 :: a3 :: a4 :: a5 :: a6 :: a7 :: a8 :: some (.int x) :: lv) (st) M) := id rfl
theorem w_istore10 {a0 a1 a2 a3 a4 a5 a6 a7 a8 a9 : Option Value} {b : Option Value} {x : Int32} : wp n mi P ((.istore 10, len, inf, cst) :: es) pc (a0 :: a1 :: a2 :: a3 :: a4 :: a5 :: a6 :: a7 :: a8 :: a9 :: b :: lv) (.int x :: st) M = (nl (a0 :: a1 :: a2 :: a3 :: a4 :: a5 :: a6 :: a7 :: a8 :: a9 :: b :: lv) 10 ∧ wp n mi P es (pc + len) (a0 :: a1 :: a2 :: a3 :: a4 :: a5 :: a6 :: a7 :: a8 :: a9 :: some (.int x) :: lv) (st) M) := id rfl
theorem w_istore11 {a0 a1 a2 a3 a4 a5 a6 a7 a8 a9 a10 : Option Value} {b : Option Value} {x : Int32} : wp n mi P ((.istore 11, len, inf, cst) :: es) pc (a0 :: a1 :: a2 :: a3 :: a4 :: a5 :: a6 :: a7 :: a8 :: a9 :: a10 :: b :: lv) (.int x :: st) M = (nl (a0 :: a1 :: a2 :: a3 :: a4 :: a5 :: a6 :: a7 :: a8 :: a9 :: a10 :: b :: lv) 11 ∧ wp n mi P es (pc + len) (a0 :: a1 :: a2 :: a3 :: a4 :: a5 :: a6 :: a7 :: a8 :: a9 :: a10 :: some (.int x) :: lv) (st) M) := id rfl
theorem w_istore12 {a0 a1 a2 a3 a4 a5 a6 a7 a8 a9 a10 a11 : Option Value} {b : Option Value} {x : Int32} : wp n mi P ((.istore 12, len, inf, cst) :: es) pc (a0 :: a1 :: a2 :: a3 :: a4 :: a5 :: a6 :: a7 :: a8 :: a9 :: a10 :: a11 :: b :: lv) (.int x :: st) M = (nl (a0 :: a1 :: a2 :: a3 :: a4 :: a5 :: a6 :: a7 :: a8 :: a9 :: a10 :: a11 :: b :: lv) 12 ∧ wp n mi P es (pc + len) (a0 :: a1 :: a2 :: a3 :: a4 :: a5 :: a6 :: a7 :: a8 :: a9 :: a10 :: a11 :: some (.int x) :: lv) (st) M) := id rfl
theorem w_lstore0  {b c : Option Value} {x : Int64} : wp n mi P ((.lstore_n 0, len, inf, cst) :: es) pc (b :: c :: lv) (.long x :: st) M = (nl (b :: c :: lv) 0 ∧ wp n mi P es (pc + len) (some (.long x) :: none :: lv) (st) M) := id rfl
theorem w_lstore1 {a0 : Option Value} {b c : Option Value} {x : Int64} : wp n mi P ((.lstore_n 1, len, inf, cst) :: es) pc (a0 :: b :: c :: lv) (.long x :: st) M = (nl (a0 :: b :: c :: lv) 1 ∧ wp n mi P es (pc + len) (a0 :: some (.long x) :: none :: lv) (st) M) := id rfl
theorem w_lstore2 {a0 a1 : Option Value} {b c : Option Value} {x : Int64} : wp n mi P ((.lstore_n 2, len, inf, cst) :: es) pc (a0 :: a1 :: b :: c :: lv) (.long x :: st) M = (nl (a0 :: a1 :: b :: c :: lv) 2 ∧ wp n mi P es (pc + len) (a0 :: a1 :: some (.long x) :: none :: lv) (st) M) := id rfl
theorem w_lstore3 {a0 a1 a2 : Option Value} {b c : Option Value} {x : Int64} : wp n mi P ((.lstore_n 3, len, inf, cst) :: es) pc (a0 :: a1 :: a2 :: b :: c :: lv) (.long x :: st) M = (nl (a0 :: a1 :: a2 :: b :: c :: lv) 3 ∧ wp n mi P es (pc + len) (a0 :: a1 :: a2 :: some (.long x) :: none :: lv) (st) M) := id rfl
theorem w_lstore4 {a0 a1 a2 a3 : Option Value} {b c : Option Value} {x : Int64} : wp n mi P ((.lstore 4, len, inf, cst) :: es) pc (a0 :: a1 :: a2 :: a3 :: b :: c :: lv) (.long x :: st) M = (nl (a0 :: a1 :: a2 :: a3 :: b :: c :: lv) 4 ∧ wp n mi P es (pc + len) (a0 :: a1 :: a2 :: a3 :: some (.long x) :: none :: lv) (st) M) := id rfl
theorem w_lstore5 {a0 a1 a2 a3 a4 : Option Value} {b c : Option Value} {x : Int64} : wp n mi P ((.lstore 5, len, inf, cst) :: es) pc (a0 :: a1 :: a2 :: a3 :: a4 :: b :: c :: lv) (.long x :: st) M = (nl (a0 :: a1 :: a2 :: a3 :: a4 :: b :: c :: lv) 5 ∧ wp n mi P es (pc + len) (a0 :: a1 :: a2 :: a3 :: a4 :: some (.long x) :: none :: lv) (st) M) := id rfl
theorem w_lstore6 {a0 a1 a2 a3 a4 a5 : Option Value} {b c : Option Value} {x : Int64} : wp n mi P ((.lstore 6, len, inf, cst) :: es) pc (a0 :: a1 :: a2 :: a3 :: a4 :: a5 :: b :: c :: lv) (.long x :: st) M = (nl (a0 :: a1 :: a2 :: a3 :: a4 :: a5 :: b :: c :: lv) 6 ∧ wp n mi P es (pc + len) (a0 :: a1 :: a2 :: a3 :: a4 :: a5 :: some (.long x) :: none :: lv) (st) M) := id rfl
theorem w_lstore7 {a0 a1 a2 a3 a4 a5 a6 : Option Value} {b c : Option Value} {x : Int64} : wp n mi P ((.lstore 7, len, inf, cst) :: es) pc (a0 :: a1 :: a2 :: a3 :: a4 :: a5 :: a6 :: b :: c :: lv) (.long x :: st) M = (nl (a0 :: a1 :: a2 :: a3 :: a4 :: a5 :: a6 :: b :: c :: lv) 7 ∧ wp n mi P es (pc + len) (a0 :: a1 :: a2 :: a3 :: a4 :: a5 :: a6 :: some (.long x) :: none :: lv) (st) M) := id rfl
theorem w_lstore8 {a0 a1 a2 a3 a4 a5 a6 a7 : Option Value} {b c : Option Value} {x : Int64} : wp n mi P ((.lstore 8, len, inf, cst) :: es) pc (a0 :: a1 :: a2 :: a3 :: a4 :: a5 :: a6 :: a7 :: b :: c :: lv) (.long x :: st) M = (nl (a0 :: a1 :: a2 :: a3 :: a4 :: a5 :: a6 :: a7 :: b :: c :: lv) 8 ∧ wp n mi P es (pc + len) (a0 :: a1 :: a2 :: a3 :: a4 :: a5 :: a6 :: a7 :: some (.long x) :: none :: lv) (st) M) := id rfl
theorem w_lstore9 {a0 a1 a2 a3 a4 a5 a6 a7 a8 : Option Value} {b c : Option Value} {x : Int64} : wp n mi P ((.lstore 9, len, inf, cst) :: es) pc (a0 :: a1 :: a2 :: a3 :: a4 :: a5 :: a6 :: a7 :: a8 :: b :: c :: lv) (.long x :: st) M = (nl (a0 :: a1 :: a2 :: a3 :: a4 :: a5 :: a6 :: a7 :: a8 :: b :: c :: lv) 9 ∧ wp n mi P es (pc + len) (a0 :: a1 :: a2 :: a3 :: a4 :: a5 :: a6 :: a7 :: a8 :: some (.long x) :: none :: lv) (st) M) := id rfl
theorem w_lstore10 {a0 a1 a2 a3 a4 a5 a6 a7 a8 a9 : Option Value} {b c : Option Value} {x : Int64} : wp n mi P ((.lstore 10, len, inf, cst) :: es) pc (a0 :: a1 :: a2 :: a3 :: a4 :: a5 :: a6 :: a7 :: a8 :: a9 :: b :: c :: lv) (.long x :: st) M = (nl (a0 :: a1 :: a2 :: a3 :: a4 :: a5 :: a6 :: a7 :: a8 :: a9 :: b :: c :: lv) 10 ∧ wp n mi P es (pc + len) (a0 :: a1 :: a2 :: a3 :: a4 :: a5 :: a6 :: a7 :: a8 :: a9 :: some (.long x) :: none :: lv) (st) M) := id rfl
theorem w_lstore11 {a0 a1 a2 a3 a4 a5 a6 a7 a8 a9 a10 : Option Value} {b c : Option Value} {x : Int64} : wp n mi P ((.lstore 11, len, inf, cst) :: es) pc (a0 :: a1 :: a2 :: a3 :: a4 :: a5 :: a6 :: a7 :: a8 :: a9 :: a10 :: b :: c :: lv) (.long x :: st) M = (nl (a0 :: a1 :: a2 :: a3 :: a4 :: a5 :: a6 :: a7 :: a8 :: a9 :: a10 :: b :: c :: lv) 11 ∧ wp n mi P es (pc + len) (a0 :: a1 :: a2 :: a3 :: a4 :: a5 :: a6 :: a7 :: a8 :: a9 :: a10 :: some (.long x) :: none :: lv) (st) M) := id rfl
theorem w_lstore12 {a0 a1 a2 a3 a4 a5 a6 a7 a8 a9 a10 a11 : Option Value} {b c : Option Value} {x : Int64} : wp n mi P ((.lstore 12, len, inf, cst) :: es) pc (a0 :: a1 :: a2 :: a3 :: a4 :: a5 :: a6 :: a7 :: a8 :: a9 :: a10 :: a11 :: b :: c :: lv) (.long x :: st) M = (nl (a0 :: a1 :: a2 :: a3 :: a4 :: a5 :: a6 :: a7 :: a8 :: a9 :: a10 :: a11 :: b :: c :: lv) 12 ∧ wp n mi P es (pc + len) (a0 :: a1 :: a2 :: a3 :: a4 :: a5 :: a6 :: a7 :: a8 :: a9 :: a10 :: a11 :: some (.long x) :: none :: lv) (st) M) := id rfl
theorem w_astore0  {b : Option Value} {x : Nat} : wp n mi P ((.astore_n 0, len, inf, cst) :: es) pc (b :: lv) (.ref x :: st) M = (nl (b :: lv) 0 ∧ wp n mi P es (pc + len) (some (.ref x) :: lv) (st) M) := id rfl
theorem w_astore1 {a0 : Option Value} {b : Option Value} {x : Nat} : wp n mi P ((.astore_n 1, len, inf, cst) :: es) pc (a0 :: b :: lv) (.ref x :: st) M = (nl (a0 :: b :: lv) 1 ∧ wp n mi P es (pc + len) (a0 :: some (.ref x) :: lv) (st) M) := id rfl
theorem w_astore2 {a0 a1 : Option Value} {b : Option Value} {x : Nat} : wp n mi P ((.astore_n 2, len, inf, cst) :: es) pc (a0 :: a1 :: b :: lv) (.ref x :: st) M = (nl (a0 :: a1 :: b :: lv) 2 ∧ wp n mi P es (pc + len) (a0 :: a1 :: some (.ref x) :: lv) (st) M) := id rfl
theorem w_astore3 {a0 a1 a2 : Option Value} {b : Option Value} {x : Nat} : wp n mi P ((.astore_n 3, len, inf, cst) :: es) pc (a0 :: a1 :: a2 :: b :: lv) (.ref x :: st) M = (nl (a0 :: a1 :: a2 :: b :: lv) 3 ∧ wp n mi P es (pc + len) (a0 :: a1 :: a2 :: some (.ref x) :: lv) (st) M) := id rfl
theorem w_astore4 {a0 a1 a2 a3 : Option Value} {b : Option Value} {x : Nat} : wp n mi P ((.astore 4, len, inf, cst) :: es) pc (a0 :: a1 :: a2 :: a3 :: b :: lv) (.ref x :: st) M = (nl (a0 :: a1 :: a2 :: a3 :: b :: lv) 4 ∧ wp n mi P es (pc + len) (a0 :: a1 :: a2 :: a3 :: some (.ref x) :: lv) (st) M) := id rfl
theorem w_astore5 {a0 a1 a2 a3 a4 : Option Value} {b : Option Value} {x : Nat} : wp n mi P ((.astore 5, len, inf, cst) :: es) pc (a0 :: a1 :: a2 :: a3 :: a4 :: b :: lv) (.ref x :: st) M = (nl (a0 :: a1 :: a2 :: a3 :: a4 :: b :: lv) 5 ∧ wp n mi P es (pc + len) (a0 :: a1 :: a2 :: a3 :: a4 :: some (.ref x) :: lv) (st) M) := id rfl
theorem w_astore6 {a0 a1 a2 a3 a4 a5 : Option Value} {b : Option Value} {x : Nat} : wp n mi P ((.astore 6, len, inf, cst) :: es) pc (a0 :: a1 :: a2 :: a3 :: a4 :: a5 :: b :: lv) (.ref x :: st) M = (nl (a0 :: a1 :: a2 :: a3 :: a4 :: a5 :: b :: lv) 6 ∧ wp n mi P es (pc + len) (a0 :: a1 :: a2 :: a3 :: a4 :: a5 :: some (.ref x) :: lv) (st) M) := id rfl
theorem w_astore7 {a0 a1 a2 a3 a4 a5 a6 : Option Value} {b : Option Value} {x : Nat} : wp n mi P ((.astore 7, len, inf, cst) :: es) pc (a0 :: a1 :: a2 :: a3 :: a4 :: a5 :: a6 :: b :: lv) (.ref x :: st) M = (nl (a0 :: a1 :: a2 :: a3 :: a4 :: a5 :: a6 :: b :: lv) 7 ∧ wp n mi P es (pc + len) (a0 :: a1 :: a2 :: a3 :: a4 :: a5 :: a6 :: some (.ref x) :: lv) (st) M) := id rfl
theorem w_astore8 {a0 a1 a2 a3 a4 a5 a6 a7 : Option Value} {b : Option Value} {x : Nat} : wp n mi P ((.astore 8, len, inf, cst) :: es) pc (a0 :: a1 :: a2 :: a3 :: a4 :: a5 :: a6 :: a7 :: b :: lv) (.ref x :: st) M = (nl (a0 :: a1 :: a2 :: a3 :: a4 :: a5 :: a6 :: a7 :: b :: lv) 8 ∧ wp n mi P es (pc + len) (a0 :: a1 :: a2 :: a3 :: a4 :: a5 :: a6 :: a7 :: some (.ref x) :: lv) (st) M) := id rfl
theorem w_astore9 {a0 a1 a2 a3 a4 a5 a6 a7 a8 : Option Value} {b : Option Value} {x : Nat} : wp n mi P ((.astore 9, len, inf, cst) :: es) pc (a0 :: a1 :: a2 :: a3 :: a4 :: a5 :: a6 :: a7 :: a8 :: b :: lv) (.ref x :: st) M = (nl (a0 :: a1 :: a2 :: a3 :: a4 :: a5 :: a6 :: a7 :: a8 :: b :: lv) 9 ∧ wp n mi P es (pc + len) (a0 :: a1 :: a2 :: a3 :: a4 :: a5 :: a6 :: a7 :: a8 :: some (.ref x) :: lv) (st) M) := id rfl
theorem w_astore10 {a0 a1 a2 a3 a4 a5 a6 a7 a8 a9 : Option Value} {b : Option Value} {x : Nat} : wp n mi P ((.astore 10, len, inf, cst) :: es) pc (a0 :: a1 :: a2 :: a3 :: a4 :: a5 :: a6 :: a7 :: a8 :: a9 :: b :: lv) (.ref x :: st) M = (nl (a0 :: a1 :: a2 :: a3 :: a4 :: a5 :: a6 :: a7 :: a8 :: a9 :: b :: lv) 10 ∧ wp n mi P es (pc + len) (a0 :: a1 :: a2 :: a3 :: a4 :: a5 :: a6 :: a7 :: a8 :: a9 :: some (.ref x) :: lv) (st) M) := id rfl
theorem w_astore11 {a0 a1 a2 a3 a4 a5 a6 a7 a8 a9 a10 : Option Value} {b : Option Value} {x : Nat} : wp n mi P ((.astore 11, len, inf, cst) :: es) pc (a0 :: a1 :: a2 :: a3 :: a4 :: a5 :: a6 :: a7 :: a8 :: a9 :: a10 :: b :: lv) (.ref x :: st) M = (nl (a0 :: a1 :: a2 :: a3 :: a4 :: a5 :: a6 :: a7 :: a8 :: a9 :: a10 :: b :: lv) 11 ∧ wp n mi P es (pc + len) (a0 :: a1 :: a2 :: a3 :: a4 :: a5 :: a6 :: a7 :: a8 :: a9 :: a10 :: some (.ref x) :: lv) (st) M) := id rfl
theorem w_astore12 {a0 a1 a2 a3 a4 a5 a6 a7 a8 a9 a10 a11 : Option Value} {b : Option Value} {x : Nat} : wp n mi P ((.astore 12, len, inf, cst) :: es) pc (a0 :: a1 :: a2 :: a3 :: a4 :: a5 :: a6 :: a7 :: a8 :: a9 :: a10 :: a11 :: b :: lv) (.ref x :: st) M = (nl (a0 :: a1 :: a2 :: a3 :: a4 :: a5 :: a6 :: a7 :: a8 :: a9 :: a10 :: a11 :: b :: lv) 12 ∧ wp n mi P es (pc + len) (a0 :: a1 :: a2 :: a3 :: a4 :: a5 :: a6 :: a7 :: a8 :: a9 :: a10 :: a11 :: some (.ref x) :: lv) (st) M) := id rfl
theorem w_iinc0  {x : Int32} {d : Int} : wp n mi P ((.iinc 0 d, len, inf, cst) :: es) pc (some (.int x) :: lv) (st) M = (nl (some (.int x) :: lv) 0 ∧ wp n mi P es (pc + len) (some (.int (x + Int32.ofInt d)) :: lv) (st) M) := id rfl
theorem w_iinc1 {a0 : Option Value} {x : Int32} {d : Int} : wp n mi P ((.iinc 1 d, len, inf, cst) :: es) pc (a0 :: some (.int x) :: lv) (st) M = (nl (a0 :: some (.int x) :: lv) 1 ∧ wp n mi P es (pc + len) (a0 :: some (.int (x + Int32.ofInt d)) :: lv) (st) M) := id rfl
theorem w_iinc2 {a0 a1 : Option Value} {x : Int32} {d : Int} : wp n mi P ((.iinc 2 d, len, inf, cst) :: es) pc (a0 :: a1 :: some (.int x) :: lv) (st) M = (nl (a0 :: a1 :: some (.int x) :: lv) 2 ∧ wp n mi P es (pc + len) (a0 :: a1 :: some (.int (x + Int32.ofInt d)) :: lv) (st) M) := id rfl
theorem w_iinc3 {a0 a1 a2 : Option Value} {x : Int32} {d : Int} : wp n mi P ((.iinc 3 d, len, inf, cst) :: es) pc (a0 :: a1 :: a2 :: some (.int x) :: lv) (st) M = (nl (a0 :: a1 :: a2 :: some (.int x) :: lv) 3 ∧ wp n mi P es (pc + len) (a0 :: a1 :: a2 :: some (.int (x + Int32.ofInt d)) :: lv) (st) M) := id rfl
theorem w_iinc4 {a0 a1 a2 a3 : Option Value} {x : Int32} {d : Int} : wp n mi P ((.iinc 4 d, len, inf, cst) :: es) pc (a0 :: a1 :: a2 :: a3 :: some (.int x) :: lv) (st) M = (nl (a0 :: a1 :: a2 :: a3 :: some (.int x) :: lv) 4 ∧ wp n mi P es (pc + len) (a0 :: a1 :: a2 :: a3 :: some (.int (x + Int32.ofInt d)) :: lv) (st) M) := id rfl
theorem w_iinc5 {a0 a1 a2 a3 a4 : Option Value} {x : Int32} {d : Int} : wp n mi P ((.iinc 5 d, len, inf, cst) :: es) pc (a0 :: a1 :: a2 :: a3 :: a4 :: some (.int x) :: lv) (st) M = (nl (a0 :: a1 :: a2 :: a3 :: a4 :: some (.int x) :: lv) 5 ∧ wp n mi P es (pc + len) (a0 :: a1 :: a2 :: a3 :: a4 :: some (.int (x + Int32.ofInt d)) :: lv) (st) M) := id rfl
theorem w_iinc6 {a0 a1 a2 a3 a4 a5 : Option Value} {x : Int32} {d : Int} : wp n mi P ((.iinc 6 d, len, inf, cst) :: es) pc (a0 :: a1 :: a2 :: a3 :: a4 :: a5 :: some (.int x) :: lv) (st) M = (nl (a0 :: a1 :: a2 :: a3 :: a4 :: a5 :: some (.int x) :: lv) 6 ∧ wp n mi P es (pc + len) (a0 :: a1 :: a2 :: a3 :: a4 :: a5 :: some (.int (x + Int32.ofInt d)) :: lv) (st) M) := id rfl
theorem w_iinc7 {a0 a1 a2 a3 a4 a5 a6 : Option Value} {x : Int32} {d : Int} : wp n mi P ((.iinc 7 d, len, inf, cst) :: es) pc (a0 :: a1 :: a2 :: a3 :: a4 :: a5 :: a6 :: some (.int x) :: lv) (st) M = (nl (a0 :: a1 :: a2 :: a3 :: a4 :: a5 :: a6 :: some (.int x) :: lv) 7 ∧ wp n mi P es (pc + len) (a0 :: a1 :: a2 :: a3 :: a4 :: a5 :: a6 :: some (.int (x + Int32.ofInt d)) :: lv) (st) M) := id rfl
theorem w_iinc8 {a0 a1 a2 a3 a4 a5 a6 a7 : Option Value} {x : Int32} {d : Int} : wp n mi P ((.iinc 8 d, len, inf, cst) :: es) pc (a0 :: a1 :: a2 :: a3 :: a4 :: a5 :: a6 :: a7 :: some (.int x) :: lv) (st) M = (nl (a0 :: a1 :: a2 :: a3 :: a4 :: a5 :: a6 :: a7 :: some (.int x) :: lv) 8 ∧ wp n mi P es (pc + len) (a0 :: a1 :: a2 :: a3 :: a4 :: a5 :: a6 :: a7 :: some (.int (x + Int32.ofInt d)) :: lv) (st) M) := id rfl
theorem w_iinc9 {a0 a1 a2 a3 a4 a5 a6 a7 a8 : Option Value} {x : Int32} {d : Int} : wp n mi P ((.iinc 9 d, len, inf, cst) :: es) pc (a0 :: a1 :: a2 :: a3 :: a4 :: a5 :: a6 :: a7 :: a8 :: some (.int x) :: lv) (st) M = (nl (a0 :: a1 :: a2 :: a3 :: a4 :: a5 :: a6 :: a7 :: a8 :: some (.int x) :: lv) 9 ∧ wp n mi P es (pc + len) (a0 :: a1 :: a2 :: a3 :: a4 :: a5 :: a6 :: a7 :: a8 :: some (.int (x + Int32.ofInt d)) :: lv) (st) M) := id rfl
theorem w_iinc10 {a0 a1 a2 a3 a4 a5 a6 a7 a8 a9 : Option Value} {x : Int32} {d : Int} : wp n mi P ((.iinc 10 d, len, inf, cst) :: es) pc (a0 :: a1 :: a2 :: a3 :: a4 :: a5 :: a6 :: a7 :: a8 :: a9 :: some (.int x) :: lv) (st) M = (nl (a0 :: a1 :: a2 :: a3 :: a4 :: a5 :: a6 :: a7 :: a8 :: a9 :: some (.int x) :: lv) 10 ∧ wp n mi P es (pc + len) (a0 :: a1 :: a2 :: a3 :: a4 :: a5 :: a6 :: a7 :: a8 :: a9 :: some (.int (x + Int32.ofInt d)) :: lv) (st) M) := id rfl
theorem w_iinc11 {a0 a1 a2 a3 a4 a5 a6 a7 a8 a9 a10 : Option Value} {x : Int32} {d : Int} : wp n mi P ((.iinc 11 d, len, inf, cst) :: es) pc (a0 :: a1 :: a2 :: a3 :: a4 :: a5 :: a6 :: a7 :: a8 :: a9 :: a10 :: some (.int x) :: lv) (st) M = (nl (a0 :: a1 :: a2 :: a3 :: a4 :: a5 :: a6 :: a7 :: a8 :: a9 :: a10 :: some (.int x) :: lv) 11 ∧ wp n mi P es (pc + len) (a0 :: a1 :: a2 :: a3 :: a4 :: a5 :: a6 :: a7 :: a8 :: a9 :: a10 :: some (.int (x + Int32.ofInt d)) :: lv) (st) M) := id rfl
theorem w_iinc12 {a0 a1 a2 a3 a4 a5 a6 a7 a8 a9 a10 a11 : Option Value} {x : Int32} {d : Int} : wp n mi P ((.iinc 12 d, len, inf, cst) :: es) pc (a0 :: a1 :: a2 :: a3 :: a4 :: a5 :: a6 :: a7 :: a8 :: a9 :: a10 :: a11 :: some (.int x) :: lv) (st) M = (nl (a0 :: a1 :: a2 :: a3 :: a4 :: a5 :: a6 :: a7 :: a8 :: a9 :: a10 :: a11 :: some (.int x) :: lv) 12 ∧ wp n mi P es (pc + len) (a0 :: a1 :: a2 :: a3 :: a4 :: a5 :: a6 :: a7 :: a8 :: a9 :: a10 :: a11 :: some (.int (x + Int32.ofInt d)) :: lv) (st) M) := id rfl
theorem nl_1n  : nl (none :: lv) 1 = True := rfl
theorem nl_1i  {x : Int32} : nl (some (.int x) :: lv) 1 = True := rfl
theorem nl_1a  {x : Nat} : nl (some (.ref x) :: lv) 1 = True := rfl
theorem nl_2n {a0 : Option Value} : nl (a0 :: none :: lv) 2 = True := rfl
theorem nl_2i {a0 : Option Value} {x : Int32} : nl (a0 :: some (.int x) :: lv) 2 = True := rfl
theorem nl_2a {a0 : Option Value} {x : Nat} : nl (a0 :: some (.ref x) :: lv) 2 = True := rfl
theorem nl_3n {a0 a1 : Option Value} : nl (a0 :: a1 :: none :: lv) 3 = True := rfl
theorem nl_3i {a0 a1 : Option Value} {x : Int32} : nl (a0 :: a1 :: some (.int x) :: lv) 3 = True := rfl
theorem nl_3a {a0 a1 : Option Value} {x : Nat} : nl (a0 :: a1 :: some (.ref x) :: lv) 3 = True := rfl
theorem nl_4n {a0 a1 a2 : Option Value} : nl (a0 :: a1 :: a2 :: none :: lv) 4 = True := rfl
theorem nl_4i {a0 a1 a2 : Option Value} {x : Int32} : nl (a0 :: a1 :: a2 :: some (.int x) :: lv) 4 = True := rfl
theorem nl_4a {a0 a1 a2 : Option Value} {x : Nat} : nl (a0 :: a1 :: a2 :: some (.ref x) :: lv) 4 = True := rfl
theorem nl_5n {a0 a1 a2 a3 : Option Value} : nl (a0 :: a1 :: a2 :: a3 :: none :: lv) 5 = True := rfl
theorem nl_5i {a0 a1 a2 a3 : Option Value} {x : Int32} : nl (a0 :: a1 :: a2 :: a3 :: some (.int x) :: lv) 5 = True := rfl
theorem nl_5a {a0 a1 a2 a3 : Option Value} {x : Nat} : nl (a0 :: a1 :: a2 :: a3 :: some (.ref x) :: lv) 5 = True := rfl
theorem nl_6n {a0 a1 a2 a3 a4 : Option Value} : nl (a0 :: a1 :: a2 :: a3 :: a4 :: none :: lv) 6 = True := rfl
theorem nl_6i {a0 a1 a2 a3 a4 : Option Value} {x : Int32} : nl (a0 :: a1 :: a2 :: a3 :: a4 :: some (.int x) :: lv) 6 = True := rfl
theorem nl_6a {a0 a1 a2 a3 a4 : Option Value} {x : Nat} : nl (a0 :: a1 :: a2 :: a3 :: a4 :: some (.ref x) :: lv) 6 = True := rfl
theorem nl_7n {a0 a1 a2 a3 a4 a5 : Option Value} : nl (a0 :: a1 :: a2 :: a3 :: a4 :: a5 :: none :: lv) 7 = True := rfl
theorem nl_7i {a0 a1 a2 a3 a4 a5 : Option Value} {x : Int32} : nl (a0 :: a1 :: a2 :: a3 :: a4 :: a5 :: some (.int x) :: lv) 7 = True := rfl
theorem nl_7a {a0 a1 a2 a3 a4 a5 : Option Value} {x : Nat} : nl (a0 :: a1 :: a2 :: a3 :: a4 :: a5 :: some (.ref x) :: lv) 7 = True := rfl
theorem nl_8n {a0 a1 a2 a3 a4 a5 a6 : Option Value} : nl (a0 :: a1 :: a2 :: a3 :: a4 :: a5 :: a6 :: none :: lv) 8 = True := rfl
theorem nl_8i {a0 a1 a2 a3 a4 a5 a6 : Option Value} {x : Int32} : nl (a0 :: a1 :: a2 :: a3 :: a4 :: a5 :: a6 :: some (.int x) :: lv) 8 = True := rfl
theorem nl_8a {a0 a1 a2 a3 a4 a5 a6 : Option Value} {x : Nat} : nl (a0 :: a1 :: a2 :: a3 :: a4 :: a5 :: a6 :: some (.ref x) :: lv) 8 = True := rfl
theorem nl_9n {a0 a1 a2 a3 a4 a5 a6 a7 : Option Value} : nl (a0 :: a1 :: a2 :: a3 :: a4 :: a5 :: a6 :: a7 :: none :: lv) 9 = True := rfl
theorem nl_9i {a0 a1 a2 a3 a4 a5 a6 a7 : Option Value} {x : Int32} : nl (a0 :: a1 :: a2 :: a3 :: a4 :: a5 :: a6 :: a7 :: some (.int x) :: lv) 9 = True := rfl
theorem nl_9a {a0 a1 a2 a3 a4 a5 a6 a7 : Option Value} {x : Nat} : nl (a0 :: a1 :: a2 :: a3 :: a4 :: a5 :: a6 :: a7 :: some (.ref x) :: lv) 9 = True := rfl
theorem nl_10n {a0 a1 a2 a3 a4 a5 a6 a7 a8 : Option Value} : nl (a0 :: a1 :: a2 :: a3 :: a4 :: a5 :: a6 :: a7 :: a8 :: none :: lv) 10 = True := rfl
theorem nl_10i {a0 a1 a2 a3 a4 a5 a6 a7 a8 : Option Value} {x : Int32} : nl (a0 :: a1 :: a2 :: a3 :: a4 :: a5 :: a6 :: a7 :: a8 :: some (.int x) :: lv) 10 = True := rfl
theorem nl_10a {a0 a1 a2 a3 a4 a5 a6 a7 a8 : Option Value} {x : Nat} : nl (a0 :: a1 :: a2 :: a3 :: a4 :: a5 :: a6 :: a7 :: a8 :: some (.ref x) :: lv) 10 = True := rfl
theorem nl_11n {a0 a1 a2 a3 a4 a5 a6 a7 a8 a9 : Option Value} : nl (a0 :: a1 :: a2 :: a3 :: a4 :: a5 :: a6 :: a7 :: a8 :: a9 :: none :: lv) 11 = True := rfl
theorem nl_11i {a0 a1 a2 a3 a4 a5 a6 a7 a8 a9 : Option Value} {x : Int32} : nl (a0 :: a1 :: a2 :: a3 :: a4 :: a5 :: a6 :: a7 :: a8 :: a9 :: some (.int x) :: lv) 11 = True := rfl
theorem nl_11a {a0 a1 a2 a3 a4 a5 a6 a7 a8 a9 : Option Value} {x : Nat} : nl (a0 :: a1 :: a2 :: a3 :: a4 :: a5 :: a6 :: a7 :: a8 :: a9 :: some (.ref x) :: lv) 11 = True := rfl
theorem nl_12n {a0 a1 a2 a3 a4 a5 a6 a7 a8 a9 a10 : Option Value} : nl (a0 :: a1 :: a2 :: a3 :: a4 :: a5 :: a6 :: a7 :: a8 :: a9 :: a10 :: none :: lv) 12 = True := rfl
theorem nl_12i {a0 a1 a2 a3 a4 a5 a6 a7 a8 a9 a10 : Option Value} {x : Int32} : nl (a0 :: a1 :: a2 :: a3 :: a4 :: a5 :: a6 :: a7 :: a8 :: a9 :: a10 :: some (.int x) :: lv) 12 = True := rfl
theorem nl_12a {a0 a1 a2 a3 a4 a5 a6 a7 a8 a9 a10 : Option Value} {x : Nat} : nl (a0 :: a1 :: a2 :: a3 :: a4 :: a5 :: a6 :: a7 :: a8 :: a9 :: a10 :: some (.ref x) :: lv) 12 = True := rfl
theorem nl_0 : nl lv 0 = True := rfl
theorem w_if_eq {x : Int32} {off : Int} {t : Nat} : wp n mi P ((.ifCond .eq off, len, [t], cst) :: es) pc lv (.int x :: st) M = ((x = 0 → J n mi t lv st M P) ∧ (¬ x = 0 → wp n mi P es (pc + len) lv (st) M)) := id rfl
theorem w_if_ne {x : Int32} {off : Int} {t : Nat} : wp n mi P ((.ifCond .ne off, len, [t], cst) :: es) pc lv (.int x :: st) M = ((¬ x = 0 → J n mi t lv st M P) ∧ (x = 0 → wp n mi P es (pc + len) lv (st) M)) := id rfl
theorem w_if_lt {x : Int32} {off : Int} {t : Nat} : wp n mi P ((.ifCond .lt off, len, [t], cst) :: es) pc lv (.int x :: st) M = ((x < 0 → J n mi t lv st M P) ∧ (¬ x < 0 → wp n mi P es (pc + len) lv (st) M)) := id rfl
theorem w_if_ge {x : Int32} {off : Int} {t : Nat} : wp n mi P ((.ifCond .ge off, len, [t], cst) :: es) pc lv (.int x :: st) M = ((0 ≤ x → J n mi t lv st M P) ∧ (¬ 0 ≤ x → wp n mi P es (pc + len) lv (st) M)) := id rfl
theorem w_if_gt {x : Int32} {off : Int} {t : Nat} : wp n mi P ((.ifCond .gt off, len, [t], cst) :: es) pc lv (.int x :: st) M = ((0 < x → J n mi t lv st M P) ∧ (¬ 0 < x → wp n mi P es (pc + len) lv (st) M)) := id rfl
theorem w_if_le {x : Int32} {off : Int} {t : Nat} : wp n mi P ((.ifCond .le off, len, [t], cst) :: es) pc lv (.int x :: st) M = ((x ≤ 0 → J n mi t lv st M P) ∧ (¬ x ≤ 0 → wp n mi P es (pc + len) lv (st) M)) := id rfl
theorem w_icmp_eq {x y : Int32} {off : Int} {t : Nat} : wp n mi P ((.if_icmp .eq off, len, [t], cst) :: es) pc lv (.int y :: .int x :: st) M = ((x = y → J n mi t lv st M P) ∧ (¬ x = y → wp n mi P es (pc + len) lv (st) M)) := id rfl
theorem w_icmp_ne {x y : Int32} {off : Int} {t : Nat} : wp n mi P ((.if_icmp .ne off, len, [t], cst) :: es) pc lv (.int y :: .int x :: st) M = ((¬ x = y → J n mi t lv st M P) ∧ (x = y → wp n mi P es (pc + len) lv (st) M)) := id rfl
theorem w_icmp_lt {x y : Int32} {off : Int} {t : Nat} : wp n mi P ((.if_icmp .lt off, len, [t], cst) :: es) pc lv (.int y :: .int x :: st) M = ((x < y → J n mi t lv st M P) ∧ (¬ x < y → wp n mi P es (pc + len) lv (st) M)) := id rfl
theorem w_icmp_ge {x y : Int32} {off : Int} {t : Nat} : wp n mi P ((.if_icmp .ge off, len, [t], cst) :: es) pc lv (.int y :: .int x :: st) M = ((y ≤ x → J n mi t lv st M P) ∧ (¬ y ≤ x → wp n mi P es (pc + len) lv (st) M)) := id rfl
theorem w_icmp_gt {x y : Int32} {off : Int} {t : Nat} : wp n mi P ((.if_icmp .gt off, len, [t], cst) :: es) pc lv (.int y :: .int x :: st) M = ((y < x → J n mi t lv st M P) ∧ (¬ y < x → wp n mi P es (pc + len) lv (st) M)) := id rfl
theorem w_icmp_le {x y : Int32} {off : Int} {t : Nat} : wp n mi P ((.if_icmp .le off, len, [t], cst) :: es) pc lv (.int y :: .int x :: st) M = ((x ≤ y → J n mi t lv st M P) ∧ (¬ x ≤ y → wp n mi P es (pc + len) lv (st) M)) := id rfl
theorem w_goto {off : Int} {t : Nat} : wp n mi P ((.goto off, len, [t], cst) :: es) pc lv (st) M = (J n mi t lv st M P) := id rfl
theorem w_ldc {z t : Nat} : wp n mi P ((.ldc z, len, [0, t], cst) :: es) pc lv (st) M = (wp n mi P es (pc + len) lv (.int (Int32.ofInt cst) :: st) M) := id rfl
theorem w_ldcS {z t : Nat} : wp n mi P ((.ldc z, len, [1, t], cst) :: es) pc lv (st) M = (wp n mi P es (pc + len) lv (.ref (65 + t) :: st) M) := id rfl
theorem w_ldcw {z : Nat} : wp n mi P ((.ldc_w z, len, inf, cst) :: es) pc lv (st) M = (wp n mi P es (pc + len) lv (.int (Int32.ofInt cst) :: st) M) := id rfl
theorem w_ldc2 {z : Nat} : wp n mi P ((.ldc2_w z, len, inf, cst) :: es) pc lv (st) M = (wp n mi P es (pc + len) lv (.long (Int64.ofInt cst) :: st) M) := id rfl
theorem w_getf0 {z c k t q : Nat} : wp n mi P ((.getfield z, len, [0, k, t, q], cst) :: es) pc lv (.ref c :: st) M = (kd c = 0 ∧ wp n mi P es (pc + len) lv ((if t = 0 then .int (M.1 c k) else .ref (c + t)) :: st) M) := id rfl
theorem w_putf0 {z c k q : Nat} {v : Int32} : wp n mi P ((.putfield z, len, [0, k, 0, q], cst) :: es) pc lv (.int v :: .ref c :: st) M = (kd c = 0 ∧ wp n mi P es (pc + len) lv (st) (u1 M c k v)) := by show (_ ∧ ((0 : Nat) = 0 ∨ _) ∧ _) = _; simp
theorem w_putb0 {z c k q : Nat} {v : Int32} : wp n mi P ((.putfield z, len, [0, k, 1, q], cst) :: es) pc lv (.int v :: .ref c :: st) M = (kd c = 0 ∧ (v = 0 ∨ v = 1) ∧ wp n mi P es (pc + len) lv (st) (u1 M c k v)) := by show (_ ∧ ((1 : Nat) = 0 ∨ _) ∧ _) = _; simp
theorem w_getf1 {z c k t q : Nat} : wp n mi P ((.getfield z, len, [1, k, t, q], cst) :: es) pc lv (.ref c :: st) M = (kd c = 1 ∧ wp n mi P es (pc + len) lv ((if t = 0 then .int (M.1 c k) else .ref (c + t)) :: st) M) := id rfl
theorem w_putf1 {z c k q : Nat} {v : Int32} : wp n mi P ((.putfield z, len, [1, k, 0, q], cst) :: es) pc lv (.int v :: .ref c :: st) M = (kd c = 1 ∧ wp n mi P es (pc + len) lv (st) (u1 M c k v)) := by show (_ ∧ ((0 : Nat) = 0 ∨ _) ∧ _) = _; simp
theorem w_putb1 {z c k q : Nat} {v : Int32} : wp n mi P ((.putfield z, len, [1, k, 1, q], cst) :: es) pc lv (.int v :: .ref c :: st) M = (kd c = 1 ∧ (v = 0 ∨ v = 1) ∧ wp n mi P es (pc + len) lv (st) (u1 M c k v)) := by show (_ ∧ ((1 : Nat) = 0 ∨ _) ∧ _) = _; simp
theorem w_getf2 {z c k t q : Nat} : wp n mi P ((.getfield z, len, [2, k, t, q], cst) :: es) pc lv (.ref c :: st) M = (kd c = 2 ∧ wp n mi P es (pc + len) lv ((if t = 0 then .int (M.1 c k) else .ref (c + t)) :: st) M) := id rfl
theorem w_putf2 {z c k q : Nat} {v : Int32} : wp n mi P ((.putfield z, len, [2, k, 0, q], cst) :: es) pc lv (.int v :: .ref c :: st) M = (kd c = 2 ∧ wp n mi P es (pc + len) lv (st) (u1 M c k v)) := by show (_ ∧ ((0 : Nat) = 0 ∨ _) ∧ _) = _; simp
theorem w_putb2 {z c k q : Nat} {v : Int32} : wp n mi P ((.putfield z, len, [2, k, 1, q], cst) :: es) pc lv (.int v :: .ref c :: st) M = (kd c = 2 ∧ (v = 0 ∨ v = 1) ∧ wp n mi P es (pc + len) lv (st) (u1 M c k v)) := by show (_ ∧ ((1 : Nat) = 0 ∨ _) ∧ _) = _; simp
theorem w_getf3 {z c k t q : Nat} : wp n mi P ((.getfield z, len, [3, k, t, q], cst) :: es) pc lv (.ref c :: st) M = (kd c = 3 ∧ wp n mi P es (pc + len) lv ((if t = 0 then .int (M.1 c k) else .ref (c + t)) :: st) M) := id rfl
theorem w_putf3 {z c k q : Nat} {v : Int32} : wp n mi P ((.putfield z, len, [3, k, 0, q], cst) :: es) pc lv (.int v :: .ref c :: st) M = (kd c = 3 ∧ wp n mi P es (pc + len) lv (st) (u1 M c k v)) := by show (_ ∧ ((0 : Nat) = 0 ∨ _) ∧ _) = _; simp
theorem w_putb3 {z c k q : Nat} {v : Int32} : wp n mi P ((.putfield z, len, [3, k, 1, q], cst) :: es) pc lv (.int v :: .ref c :: st) M = (kd c = 3 ∧ (v = 0 ∨ v = 1) ∧ wp n mi P es (pc + len) lv (st) (u1 M c k v)) := by show (_ ∧ ((1 : Nat) = 0 ∨ _) ∧ _) = _; simp
theorem w_getf4 {z c k t q : Nat} : wp n mi P ((.getfield z, len, [4, k, t, q], cst) :: es) pc lv (.ref c :: st) M = (kd c = 4 ∧ wp n mi P es (pc + len) lv ((if t = 0 then .int (M.1 c k) else .ref (c + t)) :: st) M) := id rfl
theorem w_putf4 {z c k q : Nat} {v : Int32} : wp n mi P ((.putfield z, len, [4, k, 0, q], cst) :: es) pc lv (.int v :: .ref c :: st) M = (kd c = 4 ∧ wp n mi P es (pc + len) lv (st) (u1 M c k v)) := by show (_ ∧ ((0 : Nat) = 0 ∨ _) ∧ _) = _; simp
theorem w_putb4 {z c k q : Nat} {v : Int32} : wp n mi P ((.putfield z, len, [4, k, 1, q], cst) :: es) pc lv (.int v :: .ref c :: st) M = (kd c = 4 ∧ (v = 0 ∨ v = 1) ∧ wp n mi P es (pc + len) lv (st) (u1 M c k v)) := by show (_ ∧ ((1 : Nat) = 0 ∨ _) ∧ _) = _; simp
theorem w_getf5 {z c k t q : Nat} : wp n mi P ((.getfield z, len, [5, k, t, q], cst) :: es) pc lv (.ref c :: st) M = (kd c = 5 ∧ wp n mi P es (pc + len) lv ((if t = 0 then .int (M.1 c k) else .ref (c + t)) :: st) M) := id rfl
theorem w_putf5 {z c k q : Nat} {v : Int32} : wp n mi P ((.putfield z, len, [5, k, 0, q], cst) :: es) pc lv (.int v :: .ref c :: st) M = (kd c = 5 ∧ wp n mi P es (pc + len) lv (st) (u1 M c k v)) := by show (_ ∧ ((0 : Nat) = 0 ∨ _) ∧ _) = _; simp
theorem w_putb5 {z c k q : Nat} {v : Int32} : wp n mi P ((.putfield z, len, [5, k, 1, q], cst) :: es) pc lv (.int v :: .ref c :: st) M = (kd c = 5 ∧ (v = 0 ∨ v = 1) ∧ wp n mi P es (pc + len) lv (st) (u1 M c k v)) := by show (_ ∧ ((1 : Nat) = 0 ∨ _) ∧ _) = _; simp
theorem w_getf6 {z c k t q : Nat} : wp n mi P ((.getfield z, len, [6, k, t, q], cst) :: es) pc lv (.ref c :: st) M = (kd c = 6 ∧ wp n mi P es (pc + len) lv ((if t = 0 then .int (M.1 c k) else .ref (c + t)) :: st) M) := id rfl
theorem w_putf6 {z c k q : Nat} {v : Int32} : wp n mi P ((.putfield z, len, [6, k, 0, q], cst) :: es) pc lv (.int v :: .ref c :: st) M = (kd c = 6 ∧ wp n mi P es (pc + len) lv (st) (u1 M c k v)) := by show (_ ∧ ((0 : Nat) = 0 ∨ _) ∧ _) = _; simp
theorem w_putb6 {z c k q : Nat} {v : Int32} : wp n mi P ((.putfield z, len, [6, k, 1, q], cst) :: es) pc lv (.int v :: .ref c :: st) M = (kd c = 6 ∧ (v = 0 ∨ v = 1) ∧ wp n mi P es (pc + len) lv (st) (u1 M c k v)) := by show (_ ∧ ((1 : Nat) = 0 ∨ _) ∧ _) = _; simp
theorem w_getfV {z c t q : Nat} : wp n mi P ((.getfield z, len, [12, 0, t, q], cst) :: es) pc lv (.ref c :: st) M = (∃ j, j < 15 ∧ c = 65 + j ∧ wp n mi P es (pc + len) lv (.ref (80 + j) :: st) M) := id rfl
theorem w_getfC {z c t q : Nat} : wp n mi P ((.getfield z, len, [12, 1, t, q], cst) :: es) pc lv (.ref c :: st) M = (∃ j, j < 15 ∧ c = 65 + j ∧ wp n mi P es (pc + len) lv (.int 0 :: st) M) := id rfl
theorem w_iald {c : Nat} {i : Int32} : wp n mi P ((.iaload, len, [7], cst) :: es) pc lv (.int i :: .ref c :: st) M = (kd c = 7 ∧ vp_in i (ln c) ∧ wp n mi P es (pc + len) lv (.int (M.1 c i.toNatClampNeg) :: st) M) := id rfl
theorem w_ialdS {c : Nat} {i : Int32} : wp n mi P ((.iaload, len, [10], cst) :: es) pc lv (.int i :: .ref c :: st) M = (∃ j, j < 4 ∧ c = 60 + j ∧ vp_in i (ln c) ∧ wp n mi P es (pc + len) lv (.int (sv c i.toNatClampNeg) :: st) M) := id rfl
theorem w_ialdX {c : Nat} {i : Int32} : wp n mi P ((.iaload, len, [11], cst) :: es) pc lv (.int i :: .ref c :: st) M = (c = 64 ∧ vp_in i (M.1 95 0).toNatClampNeg ∧ wp n mi P es (pc + len) lv (.int (M.1 64 i.toNatClampNeg) :: st) M) := id rfl
theorem w_iast {c : Nat} {i v : Int32} : wp n mi P ((.iastore, len, inf, cst) :: es) pc lv (.int v :: .int i :: .ref c :: st) M = (kd c = 7 ∧ vp_in i (ln c) ∧ wp n mi P es (pc + len) lv (st) (u1 M c i.toNatClampNeg v)) := id rfl
theorem w_lald {c : Nat} {i : Int32} : wp n mi P ((.laload, len, inf, cst) :: es) pc lv (.int i :: .ref c :: st) M = (kd c = 8 ∧ vp_in i (ln c) ∧ wp n mi P es (pc + len) lv (.long (M.2 c i.toNatClampNeg) :: st) M) := id rfl
theorem w_last {c : Nat} {i : Int32} {v : Int64} : wp n mi P ((.lastore, len, inf, cst) :: es) pc lv (.long v :: .int i :: .ref c :: st) M = (kd c = 8 ∧ vp_in i (ln c) ∧ wp n mi P es (pc + len) lv (st) (u2 M c i.toNatClampNeg v)) := id rfl
theorem w_aald {c : Nat} {i : Int32} : wp n mi P ((.aaload, len, inf, cst) :: es) pc lv (.int i :: .ref c :: st) M = (kd c = 9 ∧ vp_in i (ln c) ∧ wp n mi P es (pc + len) lv (.ref (c + 1 + i.toNatClampNeg) :: st) M) := id rfl
theorem w_bald {c : Nat} {i : Int32} : wp n mi P ((.baload, len, inf, cst) :: es) pc lv (.int i :: .ref c :: st) M = (∃ j, j < 15 ∧ c = 80 + j ∧ vp_in i (slL.getD j 0) ∧ wp n mi P es (pc + len) lv (.int ((sbL.getD j []).getD i.toNatClampNeg 0) :: st) M) := id rfl
theorem w_alen {c : Nat} : wp n mi P ((.arraylength, len, [7], cst) :: es) pc lv (.ref c :: st) M = ((kd c = 7 ∨ kd c = 8) ∧ wp n mi P es (pc + len) lv (.int (Int32.ofNat (ln c)) :: st) M) := id rfl
theorem w_alenS {c : Nat} : wp n mi P ((.arraylength, len, [10], cst) :: es) pc lv (.ref c :: st) M = (∃ j, j < 4 ∧ c = 60 + j ∧ wp n mi P es (pc + len) lv (.int (Int32.ofNat (ln c)) :: st) M) := id rfl
theorem w_alenX {c : Nat} : wp n mi P ((.arraylength, len, [11], cst) :: es) pc lv (.ref c :: st) M = (c = 64 ∧ wp n mi P es (pc + len) lv (.int (M.1 95 0) :: st) M) := id rfl
theorem w_alenB {c : Nat} : wp n mi P ((.arraylength, len, [13], cst) :: es) pc lv (.ref c :: st) M = (∃ j, j < 15 ∧ c = 80 + j ∧ wp n mi P es (pc + len) lv (.int (Int32.ofNat (slL.getD j 0)) :: st) M) := id rfl
theorem w_gets0 {z u q : Nat} : wp n mi P ((.getstatic z, len, [0, u, q], cst) :: es) pc lv (st) M = (wp n mi P es (pc + len) lv (.ref 60 :: st) M) := id rfl
theorem w_gets1 {z u q : Nat} : wp n mi P ((.getstatic z, len, [1, u, q], cst) :: es) pc lv (st) M = (wp n mi P es (pc + len) lv (.ref 61 :: st) M) := id rfl
theorem w_gets2 {z u q : Nat} : wp n mi P ((.getstatic z, len, [2, u, q], cst) :: es) pc lv (st) M = (wp n mi P es (pc + len) lv (.ref 62 :: st) M) := id rfl
theorem w_gets3 {z u q : Nat} : wp n mi P ((.getstatic z, len, [3, u, q], cst) :: es) pc lv (st) M = (wp n mi P es (pc + len) lv (.ref 63 :: st) M) := id rfl
theorem w_getsC {z u q : Nat} : wp n mi P ((.getstatic z, len, [9, u, q], cst) :: es) pc lv (st) M = (wp n mi P es (pc + len) lv (.int 1 :: st) M) := id rfl
theorem w_ireti {v : Int32} : wp n mi P ((.ireturn, len, [0], cst) :: es) pc lv ([.int v]) M = (P (some (.int v)) M) := id rfl
theorem w_iretz {v : Int32} : wp n mi P ((.ireturn, len, [1], cst) :: es) pc lv ([.int v]) M = ((v = 0 ∨ v = 1) ∧ P (some (.int v)) M) := id rfl
theorem w_iretc {v : Int32} : wp n mi P ((.ireturn, len, [2], cst) :: es) pc lv ([.int v]) M = (narrow .char (.int v) = .int v ∧ P (some (.int v)) M) := id rfl
theorem w_iretb {v : Int32} : wp n mi P ((.ireturn, len, [3], cst) :: es) pc lv ([.int v]) M = (narrow .byte (.int v) = .int v ∧ P (some (.int v)) M) := id rfl
theorem w_lret {v : Int64} : wp n mi P ((.lreturn, len, inf, cst) :: es) pc lv ([.long v]) M = (P (some (.long v)) M) := id rfl
theorem w_vret  : wp n mi P ((.return_, len, inf, cst) :: es) pc lv ([]) M = (P none M) := id rfl
theorem w_aret {a : Nat} : wp n mi P ((.areturn, len, inf, cst) :: es) pc lv ([.ref a]) M = (P (some (.ref a)) M) := id rfl
theorem w_tsw {x : Int32} {df lo hi : Int} {offs : Array Int} {d : Nat} {ts : List Nat} : wp n mi P ((.tableswitch df lo hi offs, len, (d :: ts), cst) :: es) pc lv (.int x :: st) M = (swc n mi P lv st M x lo ts d) := id rfl
theorem w_lsw {x : Int32} {df : Int} {ps : Array (Int × Int)} {d : Nat} {ts : List Nat} : wp n mi P ((.lookupswitch df ps, len, (d :: ts), cst) :: es) pc lv (.int x :: st) M = (lsc n mi P lv st M x ((ps.toList.map (fun q => q.1)).zip ts) d) := id rfl
theorem sw_nil {x : Int32} {v : Int} {d : Nat} : swc n mi P lv st M x v [] d = J n mi d lv st M P := rfl
theorem sw_cons {x : Int32} {v : Int} {d t : Nat} {ts : List Nat} : swc n mi P lv st M x v (t :: ts) d = ((x = Int32.ofInt v → J n mi t lv st M P) ∧ (¬ x = Int32.ofInt v → swc n mi P lv st M x (v + 1) ts d)) := rfl
end WE
theorem kd_0 : kd 0 = 5 := rfl
theorem kd_1 : kd 1 = 4 := rfl
theorem kd_2 : kd 2 = 7 := rfl
theorem kd_3 : kd 3 = 7 := rfl
theorem kd_4 : kd 4 = 7 := rfl
theorem kd_5 : kd 5 = 7 := rfl
theorem kd_6 : kd 6 = 7 := rfl
theorem kd_7 : kd 7 = 7 := rfl
theorem kd_8 : kd 8 = 7 := rfl
theorem kd_9 : kd 9 = 7 := rfl
theorem kd_10 : kd 10 = 4 := rfl
theorem kd_11 : kd 11 = 7 := rfl
theorem kd_12 : kd 12 = 7 := rfl
theorem kd_13 : kd 13 = 7 := rfl
theorem kd_14 : kd 14 = 7 := rfl
theorem kd_15 : kd 15 = 7 := rfl
theorem kd_16 : kd 16 = 7 := rfl
theorem kd_17 : kd 17 = 7 := rfl
theorem kd_18 : kd 18 = 7 := rfl
theorem kd_19 : kd 19 = 4 := rfl
theorem kd_20 : kd 20 = 7 := rfl
theorem kd_21 : kd 21 = 7 := rfl
theorem kd_22 : kd 22 = 7 := rfl
theorem kd_23 : kd 23 = 7 := rfl
theorem kd_24 : kd 24 = 7 := rfl
theorem kd_25 : kd 25 = 7 := rfl
theorem kd_26 : kd 26 = 7 := rfl
theorem kd_27 : kd 27 = 7 := rfl
theorem kd_28 : kd 28 = 3 := rfl
theorem kd_29 : kd 29 = 7 := rfl
theorem kd_30 : kd 30 = 7 := rfl
theorem kd_31 : kd 31 = 1 := rfl
theorem kd_32 : kd 32 = 9 := rfl
theorem kd_33 : kd 33 = 8 := rfl
theorem kd_34 : kd 34 = 8 := rfl
theorem kd_35 : kd 35 = 8 := rfl
theorem kd_36 : kd 36 = 8 := rfl
theorem kd_37 : kd 37 = 7 := rfl
theorem kd_38 : kd 38 = 7 := rfl
theorem kd_39 : kd 39 = 2 := rfl
theorem kd_40 : kd 40 = 7 := rfl
theorem kd_41 : kd 41 = 7 := rfl
theorem kd_42 : kd 42 = 7 := rfl
theorem kd_43 : kd 43 = 7 := rfl
theorem kd_44 : kd 44 = 0 := rfl
theorem kd_45 : kd 45 = 7 := rfl
theorem kd_46 : kd 46 = 6 := rfl
theorem kd_47 : kd 47 = 7 := rfl
theorem kd_48 : kd 48 = 7 := rfl
theorem kd_49 : kd 49 = 7 := rfl
theorem kd_50 : kd 50 = 7 := rfl
theorem kd_51 : kd 51 = 7 := rfl
theorem kd_52 : kd 52 = 7 := rfl
theorem kd_53 : kd 53 = 7 := rfl
theorem kd_54 : kd 54 = 7 := rfl
theorem kd_55 : kd 55 = 7 := rfl
theorem kd_56 : kd 56 = 7 := rfl
theorem kd_57 : kd 57 = 7 := rfl
theorem kd_58 : kd 58 = 7 := rfl
theorem kd_59 : kd 59 = 7 := rfl
theorem kd_60 : kd 60 = 10 := rfl
theorem kd_61 : kd 61 = 10 := rfl
theorem kd_62 : kd 62 = 10 := rfl
theorem kd_63 : kd 63 = 10 := rfl
theorem kd_64 : kd 64 = 11 := rfl
theorem ln_2 : ln 2 = 4 := rfl
theorem ln_3 : ln 3 = 8 := rfl
theorem ln_4 : ln 4 = 8 := rfl
theorem ln_5 : ln 5 = 8 := rfl
theorem ln_6 : ln 6 = 8 := rfl
theorem ln_7 : ln 7 = 8 := rfl
theorem ln_8 : ln 8 = 9 := rfl
theorem ln_9 : ln 9 = 9 := rfl
theorem ln_11 : ln 11 = 4 := rfl
theorem ln_12 : ln 12 = 8 := rfl
theorem ln_13 : ln 13 = 8 := rfl
theorem ln_14 : ln 14 = 8 := rfl
theorem ln_15 : ln 15 = 8 := rfl
theorem ln_16 : ln 16 = 8 := rfl
theorem ln_17 : ln 17 = 9 := rfl
theorem ln_18 : ln 18 = 9 := rfl
theorem ln_20 : ln 20 = 4 := rfl
theorem ln_21 : ln 21 = 8 := rfl
theorem ln_22 : ln 22 = 8 := rfl
theorem ln_23 : ln 23 = 8 := rfl
theorem ln_24 : ln 24 = 8 := rfl
theorem ln_25 : ln 25 = 8 := rfl
theorem ln_26 : ln 26 = 9 := rfl
theorem ln_27 : ln 27 = 9 := rfl
theorem ln_29 : ln 29 = 200 := rfl
theorem ln_30 : ln 30 = 30 := rfl
theorem ln_32 : ln 32 = 4 := rfl
theorem ln_33 : ln 33 = 40 := rfl
theorem ln_34 : ln 34 = 40 := rfl
theorem ln_35 : ln 35 = 40 := rfl
theorem ln_36 : ln 36 = 40 := rfl
theorem ln_37 : ln 37 = 4 := rfl
theorem ln_38 : ln 38 = 4 := rfl
theorem ln_40 : ln 40 = 4 := rfl
theorem ln_41 : ln 41 = 4 := rfl
theorem ln_42 : ln 42 = 4 := rfl
theorem ln_43 : ln 43 = 4 := rfl
theorem ln_45 : ln 45 = 30 := rfl
theorem ln_47 : ln 47 = 56 := rfl
theorem ln_48 : ln 48 = 56 := rfl
theorem ln_49 : ln 49 = 56 := rfl
theorem ln_50 : ln 50 = 56 := rfl
theorem ln_51 : ln 51 = 200 := rfl
theorem ln_52 : ln 52 = 30 := rfl
theorem ln_53 : ln 53 = 4 := rfl
theorem ln_54 : ln 54 = 4 := rfl
theorem ln_55 : ln 55 = 160 := rfl
theorem ln_56 : ln 56 = 4 := rfl
theorem ln_57 : ln 57 = 4 := rfl
theorem ln_58 : ln 58 = 4 := rfl
theorem ln_59 : ln 59 = 30 := rfl
theorem ln_60 : ln 60 = 4 := rfl
theorem ln_61 : ln 61 = 4 := rfl
theorem ln_62 : ln 62 = 6 := rfl
theorem ln_63 : ln 63 = 24 := rfl
-- Math.max, Math.min
section JM
variable {n : Nat} {mi : MI} {pc : Nat} {lv : LVs} {st : List Value} {M : Mm} {P : Option Value → Mm → Prop}
theorem J_mmax {i : Nat} {x y : Int32} (hd : decode mi.2.1 pc = .ok (.invokestatic i, 3)) (hw : Cond.methodLink mi.1.cls i Lib.Math.max.name ∈ gw) (hw2 : Cond.static Lib.Math.max.name ∈ gw) (hw3 : Cond.initialized "java/lang/Math" ∈ gw) (hw4 : Cond.code Lib.Math.max.name Lib.Math.max.code 2 (some .int) ∈ gw) (hn : 1 ≤ n) (hr : (st.map fun v => v.category).sum + 13 ≤ 60) (h : J n mi (pc + 3) lv (.int (if x < y then y else x) :: st) M P) : J n mi pc lv (.int y :: .int x :: st) M P := by
  intro l p e R s m args below meth c g A cells slots Q X hret H locs ls hH hl
  have hml : c.maxLocals = ls.size := X.2.2.1.trans hl.1.symm
  have hfr := X.2.2.2.2.2.1
  exact va_mmax X.1 X.2.1 hml X.2.2.2.1 (X.2.2.2.2.1 _ (gw_ws hw)) (X.2.2.2.2.1 _ (gw_ws hw2)) (X.2.2.2.2.1 _ (gw_ws hw3)) (X.2.2.2.2.1 _ (gw_ws hw4)) (by omega) (by rw [cv_sum]; omega) X.2.2.2.2.2.2.1.1 X.2.2.2.2.2.2.1.2 hd (h l p e R s m args below meth c g A cells slots Q X hret H locs ls hH hl)
theorem J_mmin {i : Nat} {x y : Int32} (hd : decode mi.2.1 pc = .ok (.invokestatic i, 3)) (hw : Cond.methodLink mi.1.cls i Lib.Math.min.name ∈ gw) (hw2 : Cond.static Lib.Math.min.name ∈ gw) (hw3 : Cond.initialized "java/lang/Math" ∈ gw) (hw4 : Cond.code Lib.Math.min.name Lib.Math.min.code 2 (some .int) ∈ gw) (hn : 1 ≤ n) (hr : (st.map fun v => v.category).sum + 13 ≤ 60) (h : J n mi (pc + 3) lv (.int (if y < x then y else x) :: st) M P) : J n mi pc lv (.int y :: .int x :: st) M P := by
  intro l p e R s m args below meth c g A cells slots Q X hret H locs ls hH hl
  have hml : c.maxLocals = ls.size := X.2.2.1.trans hl.1.symm
  have hfr := X.2.2.2.2.2.1
  exact va_mmin X.1 X.2.1 hml X.2.2.2.1 (X.2.2.2.2.1 _ (gw_ws hw)) (X.2.2.2.2.1 _ (gw_ws hw2)) (X.2.2.2.2.1 _ (gw_ws hw3)) (X.2.2.2.2.1 _ (gw_ws hw4)) (by omega) (by rw [cv_sum]; omega) X.2.2.2.2.2.2.1.1 X.2.2.2.2.2.2.1.2 hd (h l p e R s m args below meth c g A cells slots Q X hret H locs ls hH hl)
end JM

theorem ci_m100 : Int32.ofInt (-100) = (-100) := rfl
theorem ci_m15 : Int32.ofInt (-15) = (-15) := rfl
theorem ci_m14 : Int32.ofInt (-14) = (-14) := rfl
theorem ci_m13 : Int32.ofInt (-13) = (-13) := rfl
theorem ci_m12 : Int32.ofInt (-12) = (-12) := rfl
theorem ci_m11 : Int32.ofInt (-11) = (-11) := rfl
theorem ci_m9 : Int32.ofInt (-9) = (-9) := rfl
theorem ci_m3 : Int32.ofInt (-3) = (-3) := rfl
theorem ci_m2 : Int32.ofInt (-2) = (-2) := rfl
theorem ci_m1 : Int32.ofInt (-1) = (-1) := rfl
theorem ci_0 : Int32.ofInt 0 = 0 := rfl
theorem ci_1 : Int32.ofInt 1 = 1 := rfl
theorem ci_2 : Int32.ofInt 2 = 2 := rfl
theorem ci_3 : Int32.ofInt 3 = 3 := rfl
theorem ci_4 : Int32.ofInt 4 = 4 := rfl
theorem ci_5 : Int32.ofInt 5 = 5 := rfl
theorem ci_6 : Int32.ofInt 6 = 6 := rfl
theorem ci_7 : Int32.ofInt 7 = 7 := rfl
theorem ci_8 : Int32.ofInt 8 = 8 := rfl
theorem ci_9 : Int32.ofInt 9 = 9 := rfl
theorem ci_10 : Int32.ofInt 10 = 10 := rfl
theorem ci_11 : Int32.ofInt 11 = 11 := rfl
theorem ci_12 : Int32.ofInt 12 = 12 := rfl
theorem ci_13 : Int32.ofInt 13 = 13 := rfl
theorem ci_14 : Int32.ofInt 14 = 14 := rfl
theorem ci_15 : Int32.ofInt 15 = 15 := rfl
theorem ci_16 : Int32.ofInt 16 = 16 := rfl
theorem ci_17 : Int32.ofInt 17 = 17 := rfl
theorem ci_18 : Int32.ofInt 18 = 18 := rfl
theorem ci_19 : Int32.ofInt 19 = 19 := rfl
theorem ci_20 : Int32.ofInt 20 = 20 := rfl
theorem ci_21 : Int32.ofInt 21 = 21 := rfl
theorem ci_22 : Int32.ofInt 22 = 22 := rfl
theorem ci_23 : Int32.ofInt 23 = 23 := rfl
theorem ci_24 : Int32.ofInt 24 = 24 := rfl
theorem ci_25 : Int32.ofInt 25 = 25 := rfl
theorem ci_26 : Int32.ofInt 26 = 26 := rfl
theorem ci_27 : Int32.ofInt 27 = 27 := rfl
theorem ci_28 : Int32.ofInt 28 = 28 := rfl
theorem ci_29 : Int32.ofInt 29 = 29 := rfl
theorem ci_30 : Int32.ofInt 30 = 30 := rfl
theorem ci_31 : Int32.ofInt 31 = 31 := rfl
theorem ci_32 : Int32.ofInt 32 = 32 := rfl
theorem ci_33 : Int32.ofInt 33 = 33 := rfl
theorem ci_34 : Int32.ofInt 34 = 34 := rfl
theorem ci_35 : Int32.ofInt 35 = 35 := rfl
theorem ci_36 : Int32.ofInt 36 = 36 := rfl
theorem ci_37 : Int32.ofInt 37 = 37 := rfl
theorem ci_38 : Int32.ofInt 38 = 38 := rfl
theorem ci_39 : Int32.ofInt 39 = 39 := rfl
theorem ci_40 : Int32.ofInt 40 = 40 := rfl
theorem ci_41 : Int32.ofInt 41 = 41 := rfl
theorem ci_42 : Int32.ofInt 42 = 42 := rfl
theorem ci_43 : Int32.ofInt 43 = 43 := rfl
theorem ci_44 : Int32.ofInt 44 = 44 := rfl
theorem ci_45 : Int32.ofInt 45 = 45 := rfl
theorem ci_46 : Int32.ofInt 46 = 46 := rfl
theorem ci_47 : Int32.ofInt 47 = 47 := rfl
theorem ci_48 : Int32.ofInt 48 = 48 := rfl
theorem ci_49 : Int32.ofInt 49 = 49 := rfl
theorem ci_50 : Int32.ofInt 50 = 50 := rfl
theorem ci_51 : Int32.ofInt 51 = 51 := rfl
theorem ci_52 : Int32.ofInt 52 = 52 := rfl
theorem ci_53 : Int32.ofInt 53 = 53 := rfl
theorem ci_54 : Int32.ofInt 54 = 54 := rfl
theorem ci_55 : Int32.ofInt 55 = 55 := rfl
theorem ci_56 : Int32.ofInt 56 = 56 := rfl
theorem ci_57 : Int32.ofInt 57 = 57 := rfl
theorem ci_58 : Int32.ofInt 58 = 58 := rfl
theorem ci_59 : Int32.ofInt 59 = 59 := rfl
theorem ci_60 : Int32.ofInt 60 = 60 := rfl
theorem ci_61 : Int32.ofInt 61 = 61 := rfl
theorem ci_63 : Int32.ofInt 63 = 63 := rfl
theorem ci_70 : Int32.ofInt 70 = 70 := rfl
theorem ci_97 : Int32.ofInt 97 = 97 := rfl
theorem ci_98 : Int32.ofInt 98 = 98 := rfl
theorem ci_99 : Int32.ofInt 99 = 99 := rfl
theorem ci_100 : Int32.ofInt 100 = 100 := rfl
theorem ci_101 : Int32.ofInt 101 = 101 := rfl
theorem ci_102 : Int32.ofInt 102 = 102 := rfl
theorem ci_103 : Int32.ofInt 103 = 103 := rfl
theorem ci_104 : Int32.ofInt 104 = 104 := rfl
theorem ci_105 : Int32.ofInt 105 = 105 := rfl
theorem ci_108 : Int32.ofInt 108 = 108 := rfl
theorem ci_109 : Int32.ofInt 109 = 109 := rfl
theorem ci_110 : Int32.ofInt 110 = 110 := rfl
theorem ci_111 : Int32.ofInt 111 = 111 := rfl
theorem ci_112 : Int32.ofInt 112 = 112 := rfl
theorem ci_114 : Int32.ofInt 114 = 114 := rfl
theorem ci_115 : Int32.ofInt 115 = 115 := rfl
theorem ci_116 : Int32.ofInt 116 = 116 := rfl
theorem ci_117 : Int32.ofInt 117 = 117 := rfl
theorem ci_122 : Int32.ofInt 122 = 122 := rfl
theorem ci_160 : Int32.ofInt 160 = 160 := rfl
theorem ci_200 : Int32.ofInt 200 = 200 := rfl
theorem ci_255 : Int32.ofInt 255 = 255 := rfl
theorem ci_999 : Int32.ofInt 999 = 999 := rfl
theorem ci_1000 : Int32.ofInt 1000 = 1000 := rfl
theorem ci_9999 : Int32.ofInt 9999 = 9999 := rfl
theorem ci_10000 : Int32.ofInt 10000 = 10000 := rfl
theorem ci_12345 : Int32.ofInt 12345 = 12345 := rfl
theorem ci_99999 : Int32.ofInt 99999 = 99999 := rfl
theorem ci_252645135 : Int32.ofInt 252645135 = 252645135 := rfl
theorem ci_858993459 : Int32.ofInt 858993459 = 858993459 := rfl
theorem ci_1103515245 : Int32.ofInt 1103515245 = 1103515245 := rfl
theorem ci_1431655765 : Int32.ofInt 1431655765 = 1431655765 := rfl
theorem cl_m1 : Int64.ofInt (-1) = (-1) := rfl
theorem cl_2 : Int64.ofInt 2 = 2 := rfl
theorem cl_3 : Int64.ofInt 3 = 3 := rfl
theorem cl_5 : Int64.ofInt 5 = 5 := rfl
theorem cl_6 : Int64.ofInt 6 = 6 := rfl
theorem cl_7 : Int64.ofInt 7 = 7 := rfl
theorem cl_8 : Int64.ofInt 8 = 8 := rfl
theorem cl_9 : Int64.ofInt 9 = 9 := rfl
theorem cl_10 : Int64.ofInt 10 = 10 := rfl
theorem cl_13 : Int64.ofInt 13 = 13 := rfl
theorem cl_20 : Int64.ofInt 20 = 20 := rfl
theorem cl_30 : Int64.ofInt 30 = 30 := rfl
theorem cl_60 : Int64.ofInt 60 = 60 := rfl
theorem cl_99 : Int64.ofInt 99 = 99 := rfl
theorem cl_100 : Int64.ofInt 100 = 100 := rfl
theorem cl_255 : Int64.ofInt 255 = 255 := rfl
theorem cl_9999 : Int64.ofInt 9999 = 9999 := rfl
theorem cl_4294967295 : Int64.ofInt 4294967295 = 4294967295 := rfl
theorem lvA_i {x : Int32} {vs : List Value} : lvA (.int x :: vs) = some (.int x) :: lvA vs := rfl
theorem lvA_a {x : Nat} {vs : List Value} : lvA (.ref x :: vs) = some (.ref x) :: lvA vs := rfl
theorem lvA_l {x : Int64} {vs : List Value} : lvA (.long x :: vs) = some (.long x) :: none :: lvA vs := rfl
theorem lvA_nil : lvA [] = [] := rfl
theorem K_go {n : Nat} {mi : MI} {av : List Value} {M : Mm} {P : Option Value → Mm → Prop} (np : Nat) (hM : MOK mi np) (pads : LVs) (hp : List.replicate (mi.2.2.1 - (lvA av).length) none = pads) (hL : (lvA av).length ≤ mi.2.2.1) (h : J n mi 0 (lvA av ++ pads) [] M P) : K n mi av M P := K_of np hM _ (by rw [hp]) hL h
theorem ne0_1 : ((1 : Nat) = 0) = False := by simp
theorem ne0_2 : ((2 : Nat) = 0) = False := by simp
theorem ne0_3 : ((3 : Nat) = 0) = False := by simp
theorem ne0_4 : ((4 : Nat) = 0) = False := by simp
theorem ne0_5 : ((5 : Nat) = 0) = False := by simp
theorem ne0_6 : ((6 : Nat) = 0) = False := by simp
theorem ne0_7 : ((7 : Nat) = 0) = False := by simp
theorem ne0_8 : ((8 : Nat) = 0) = False := by simp
theorem ne0_9 : ((9 : Nat) = 0) = False := by simp
theorem ne0_10 : ((10 : Nat) = 0) = False := by simp
theorem ne0_11 : ((11 : Nat) = 0) = False := by simp
theorem ne0_12 : ((12 : Nat) = 0) = False := by simp
theorem ne0_13 : ((13 : Nat) = 0) = False := by simp
theorem ne0_14 : ((14 : Nat) = 0) = False := by simp
theorem ne0_15 : ((15 : Nat) = 0) = False := by simp
theorem ne0_16 : ((16 : Nat) = 0) = False := by simp
theorem ne0_17 : ((17 : Nat) = 0) = False := by simp
theorem ne0_18 : ((18 : Nat) = 0) = False := by simp
theorem ne0_19 : ((19 : Nat) = 0) = False := by simp
theorem ne0_20 : ((20 : Nat) = 0) = False := by simp
theorem ne0_21 : ((21 : Nat) = 0) = False := by simp
theorem ne0_22 : ((22 : Nat) = 0) = False := by simp
theorem ne0_23 : ((23 : Nat) = 0) = False := by simp
theorem ne0_24 : ((24 : Nat) = 0) = False := by simp
theorem ne0_25 : ((25 : Nat) = 0) = False := by simp
theorem ne0_26 : ((26 : Nat) = 0) = False := by simp
theorem ne0_27 : ((27 : Nat) = 0) = False := by simp
theorem ne0_28 : ((28 : Nat) = 0) = False := by simp
theorem ne0_29 : ((29 : Nat) = 0) = False := by simp
theorem ne0_30 : ((30 : Nat) = 0) = False := by simp
theorem ne0_31 : ((31 : Nat) = 0) = False := by simp
theorem ne0_32 : ((32 : Nat) = 0) = False := by simp
theorem ne0_33 : ((33 : Nat) = 0) = False := by simp
theorem ne0_34 : ((34 : Nat) = 0) = False := by simp
theorem ne0_35 : ((35 : Nat) = 0) = False := by simp
theorem ne0_36 : ((36 : Nat) = 0) = False := by simp
theorem ne0_37 : ((37 : Nat) = 0) = False := by simp
theorem ne0_38 : ((38 : Nat) = 0) = False := by simp
theorem ne0_39 : ((39 : Nat) = 0) = False := by simp
theorem ne0_40 : ((40 : Nat) = 0) = False := by simp
theorem ne0_41 : ((41 : Nat) = 0) = False := by simp
theorem ne0_42 : ((42 : Nat) = 0) = False := by simp
theorem ne0_43 : ((43 : Nat) = 0) = False := by simp
theorem ne0_44 : ((44 : Nat) = 0) = False := by simp
theorem ne0_45 : ((45 : Nat) = 0) = False := by simp
