/-! THE ABSTRACT MACHINE: a value is an int (as an Int) or a reference (a place in the world's list; null; or nothing known) -/
abbrev rn_V : Type := Int ⊕ (Option (Option Nat) ⊕ Int64)
abbrev rn_I (x : Int) : rn_V := .inl x
abbrev rn_R (a : Nat) : rn_V := .inr (.inl (some (some a)))
/-- a long -/
abbrev rn_G (x : Int64) : rn_V := .inr (.inr x)
abbrev rn_N : rn_V := .inr (.inl (some none))
abbrev rn_J : rn_V := .inr (.inl none)
/-- shape (kind, size of each cell), room left (cells, slots), ints, references -/
abbrev rn_M : Type := List (Nat × Nat) × (Nat × Nat) × (Nat → Nat → Int) × (Nat → Nat → Option Nat)
/-- instruction, next pc, a, b, place in the tables, kind, class, more -/
abbrev rn_E : Type := Instr × Nat × Nat × Nat × Nat × Nat × Nat × List Nat
/-- name, code, locals, answer, makes cells, cells, slots, frames, words, instructions -/
abbrev rn_Mt : Type := MethodName × ByteArray × Nat × Option FieldType × Bool × Nat × Nat × Nat × Nat × List (Nat × rn_E)
def rn_wr (z : Int) : Int := (z + 2147483648) % 4294967296 - 2147483648
def rn_and (x y : Int) : Int := (Int32.ofInt x &&& Int32.ofInt y).toInt
def rn_or (x y : Int) : Int := (Int32.ofInt x ||| Int32.ofInt y).toInt
def rn_xor (x y : Int) : Int := (Int32.ofInt x ^^^ Int32.ofInt y).toInt
def rn_usr (x y : Int) : Int := (((Int32.ofInt x).toUInt32 >>> ((Int32.ofInt y).toUInt32 &&& Int32.toUInt32 31)).toInt32).toInt
def rn_i2l (x : Int) : Int64 := (Int32.ofInt x).toInt64
/-- words of the stack -/
def rn_sz : List rn_V → Nat
  | [] => 0
  | .inr (.inr _) :: t => 2 + rn_sz t
  | _ :: t => 1 + rn_sz t
def rn_n2 : List rn_V → Bool
  | [] => true
  | .inr (.inr _) :: _ => false
  | _ :: t => rn_n2 t
/-- no long lies in the place before i -/
def rn_lnk (L : List rn_V) (i : Nat) : Bool := match i with | 0 => true | j + 1 => match L[j]? with | some (.inr (.inr _)) => false | _ => true
/-- a local is written: k = 0 in a method that knows no longs -/
def rn_lkk (k : Nat) (L : List rn_V) (a : Nat) (P : Prop) : Prop := match k with | 0 => P | _ => rn_lnk L a = true ∧ P
def rn_shl (x y : Int) : Int := (Int32.ofInt x <<< (Int32.ofInt y &&& 31)).toInt
def rn_shr (x y : Int) : Int := (Int32.ofInt x >>> (Int32.ofInt y &&& 31)).toInt
def rn_kd (M : rn_M) (a : Nat) : Nat := (M.1.getD a (0, 0)).1
def rn_ln (M : rn_M) (a : Nat) : Nat := (M.1.getD a (0, 0)).2
def rn_gi (M : rn_M) (a k : Nat) : Int := M.2.2.1 a k
def rn_gr (M : rn_M) (a k : Nat) : Option Nat := M.2.2.2 a k
def rn_si (M : rn_M) (a k : Nat) (v : Int) : rn_M := (M.1, M.2.1, fun b j => if b = a ∧ j = k then v else M.2.2.1 b j, M.2.2.2)
def rn_sr (M : rn_M) (a k : Nat) (v : Option Nat) : rn_M := (M.1, M.2.1, M.2.2.1, fun b j => if b = a ∧ j = k then v else M.2.2.2 b j)
def rn_cpy (M : rn_M) (s d sp dp n : Nat) : rn_M := (M.1, M.2.1, fun b j => if b = d ∧ dp ≤ j ∧ j < dp + n then M.2.2.1 s (sp + (j - dp)) else M.2.2.1 b j, M.2.2.2)
def rn_nw (M : rn_M) (k n : Nat) : rn_M := (M.1 ++ [(k, n)], (M.2.1.1 - 1, M.2.1.2 - n), fun b j => if b = M.1.length then 0 else M.2.2.1 b j, fun b j => if b = M.1.length then none else M.2.2.2 b j)
def rn_sb (M : rn_M) (c s : Nat) : rn_M := (M.1, (c, s), M.2.2)
def rn_g (b : Bool) (P : Prop) : Prop := match b with | true => P | false => False
def rn_st1 (st : List rn_V) (f : Int → List rn_V → Prop) : Prop := match st with | .inl x :: t => f x t | _ => False
def rn_st2 (st : List rn_V) (f : Int → Int → List rn_V → Prop) : Prop := match st with | .inl y :: .inl x :: t => f x y t | _ => False
def rn_stR (st : List rn_V) (f : Nat → List rn_V → Prop) : Prop := match st with | .inr (.inl (some (some a))) :: t => f a t | _ => False
def rn_stA (st : List rn_V) (f : Nat → Int → List rn_V → Prop) : Prop := match st with | .inl i :: .inr (.inl (some (some a))) :: t => f a i t | _ => False
def rn_ldI (L : List rn_V) (i : Nat) (f : Int → Prop) : Prop := match L[i]? with | some (.inl x) => f x | _ => False
def rn_sl2 (st : List rn_V) (f : Int64 → Int64 → List rn_V → Prop) : Prop := match st with | .inr (.inr y) :: .inr (.inr x) :: t => f x y t | _ => False
def rn_sl1 (st : List rn_V) (f : Int64 → List rn_V → Prop) : Prop := match st with | .inr (.inr x) :: t => f x t | _ => False
def rn_ldL (L : List rn_V) (i : Nat) (f : Int64 → Prop) : Prop := match L[i]? with | some (.inr (.inr x)) => f x | _ => False
def rn_ldR (L : List rn_V) (i : Nat) (f : Option Nat → Prop) : Prop := match L[i]? with | some (.inr (.inl (some r))) => f r | _ => False
def rn_br (c A B : Prop) : Prop := (c → A) ∧ (¬ c → B)
def rn_in (M : rn_M) (a : Nat) (i : Int) : Prop := 0 ≤ i ∧ i < (rn_ln M a : Int)
def rn_okr (k : Nat) (x : Int) : Prop := match k with | 0 => True | 1 => x = 0 ∨ x = 1 | 2 => x = 0 | _ => 0 ≤ x ∧ x ≤ 65535
/-- a value of a field as its kind says -/
def rn_fv (k : Nat) (M : rn_M) (a b : Nat) : rn_V := match k with | 2 => .inr (.inl (some (rn_gr M a b))) | _ => .inl (rn_gi M a b)
/-- switch's roads -/
def rn_sw (ts : List Nat) (i : Nat) (f : Nat → Prop) : Prop := match ts[i]? with | some t => f t | none => False
abbrev rn_K : Type := Nat → List rn_V → List rn_V → rn_M → Prop
abbrev rn_Q : Type := Option rn_V → rn_M → Prop
abbrev rn_C : Type := Nat → List rn_V → rn_M → rn_Q → Prop
/-- a call: k = 4: of a method that makes cells -/
def rn_cal (k z mc ms : Nat) (as : List rn_V) (M : rn_M) (C : rn_C) (Q : rn_Q) : Prop := match k with
  | 4 => mc ≤ M.2.1.1 ∧ ms ≤ M.2.1.2 ∧ C z as (rn_sb M mc ms) (fun r M' => Q r (rn_sb M' (M.2.1.1 - mc) (M.2.1.2 - ms)))
  | _ => C z as M Q
def rn_rcv (as : List rn_V) (f : Nat → Prop) : Prop := match as with | .inr (.inl (some (some a))) :: _ => f a | _ => False
def rn_put (k : Nat) (st : List rn_V) (M : rn_M) (b : Nat) (f : Nat → rn_M → List rn_V → Prop) : Prop := match k with
  | 0 => match st with | .inl x :: .inr (.inl (some (some a))) :: t => f a (rn_si M a b x) t | _ => False
  | 1 => match st with | .inl x :: .inr (.inl (some (some a))) :: t => (x = 0 ∨ x = 1) ∧ f a (rn_si M a b x) t | _ => False
  | _ => match st with | .inr (.inl (some r)) :: .inr (.inl (some (some a))) :: t => f a (rn_sr M a b r) t | _ => False
def rn_acp (st : List rn_V) (f : Int → Int → Nat → Int → Nat → List rn_V → Prop) : Prop := match st with
  | .inl n :: .inl dp :: .inr (.inl (some (some d))) :: .inl sp :: .inr (.inl (some (some s))) :: t => f n dp d sp s t
  | _ => False
/-- one instruction; 'mcs': cells and slots of each method -/
def rn_stp (mcs : Nat → Nat × Nat) (nf : Nat → Nat) (e : rn_E) (L st : List rn_V) (M : rn_M) (Q : rn_Q) (K : rn_K) (C : rn_C) : Prop :=
  match e with
  | (ins, nx, a, b, _, k, c, ts) =>
  match ins with
  | .iconst n => K nx L (.inl n :: st) M
  | .bipush n => K nx L (.inl n :: st) M
  | .sipush n => K nx L (.inl n :: st) M
  | .aconst_null => K nx L (.inr (.inl (some none)) :: st) M
  | .iload _ => rn_ldI L a fun x => K nx L (.inl x :: st) M
  | .iload_n _ => rn_ldI L a fun x => K nx L (.inl x :: st) M
  | .aload _ => rn_ldR L a fun x => K nx L (.inr (.inl (some x)) :: st) M
  | .aload_n _ => rn_ldR L a fun x => K nx L (.inr (.inl (some x)) :: st) M
  | .istore _ => rn_st1 st fun x t => rn_g (Nat.blt a L.length) (rn_lkk k L a (K nx (L.set a (.inl x)) t M))
  | .istore_n _ => rn_st1 st fun x t => rn_g (Nat.blt a L.length) (rn_lkk k L a (K nx (L.set a (.inl x)) t M))
  | .astore _ => match st with | .inr (.inl (some r)) :: t => rn_g (Nat.blt a L.length) (rn_lkk k L a (K nx (L.set a (.inr (.inl (some r)))) t M)) | _ => False
  | .astore_n _ => match st with | .inr (.inl (some r)) :: t => rn_g (Nat.blt a L.length) (rn_lkk k L a (K nx (L.set a (.inr (.inl (some r)))) t M)) | _ => False
  | .iinc _ n => rn_ldI L a fun x => K nx (L.set a (.inl (rn_wr (x + n)))) st M
  | .lload _ => rn_ldL L a fun x => K nx L (.inr (.inr x) :: st) M
  | .lload_n _ => rn_ldL L a fun x => K nx L (.inr (.inr x) :: st) M
  | .lstore _ => rn_sl1 st fun x t => rn_g (Nat.blt (a + 1) L.length) (rn_lkk k L a (K nx ((L.set a (.inr (.inr x))).set (a + 1) rn_J) t M))
  | .lstore_n _ => rn_sl1 st fun x t => rn_g (Nat.blt (a + 1) L.length) (rn_lkk k L a (K nx ((L.set a (.inr (.inr x))).set (a + 1) rn_J) t M))
  | .ladd => rn_sl2 st fun x y t => K nx L (.inr (.inr (x + y)) :: t) M
  | .lmul => rn_sl2 st fun x y t => K nx L (.inr (.inr (x * y)) :: t) M
  | .lcmp => rn_sl2 st fun x y t => K nx L (.inl (lg_cmp x y).toInt :: t) M
  | .i2l => rn_st1 st fun x t => K nx L (.inr (.inr (rn_i2l x)) :: t) M
  | .ldc2_w _ => K nx L (.inr (.inr (Int64.ofNat a)) :: st) M
  | .idiv => rn_st2 st fun x y t => 0 ≤ x ∧ 0 < y ∧ K nx L (.inl (x / y) :: t) M
  | .irem => rn_st2 st fun x y t => 0 ≤ x ∧ 0 < y ∧ K nx L (.inl (x % y) :: t) M
  | .ixor => rn_st2 st fun x y t => K nx L (.inl (rn_xor x y) :: t) M
  | .iushr => rn_st2 st fun x y t => K nx L (.inl (rn_usr x y) :: t) M
  | .iadd => rn_st2 st fun x y t => K nx L (.inl (rn_wr (x + y)) :: t) M
  | .isub => rn_st2 st fun x y t => K nx L (.inl (rn_wr (x - y)) :: t) M
  | .imul => rn_st2 st fun x y t => K nx L (.inl (rn_wr (x * y)) :: t) M
  | .iand => rn_st2 st fun x y t => K nx L (.inl (rn_and x y) :: t) M
  | .ior => rn_st2 st fun x y t => K nx L (.inl (rn_or x y) :: t) M
  | .ishl => rn_st2 st fun x y t => K nx L (.inl (rn_shl x y) :: t) M
  | .ishr => rn_st2 st fun x y t => K nx L (.inl (rn_shr x y) :: t) M
  | .ineg => rn_st1 st fun x t => K nx L (.inl (rn_wr (-x)) :: t) M
  | .i2c => rn_st1 st fun x t => 0 ≤ x ∧ x ≤ 65535 ∧ K nx L (.inl x :: t) M
  | .dup => match st with | .inl x :: t => K nx L (.inl x :: .inl x :: t) M | .inr (.inl r) :: t => K nx L (.inr (.inl r) :: .inr (.inl r) :: t) M | _ => False
  | .pop => match st with | .inl _ :: t => K nx L t M | .inr (.inl _) :: t => K nx L t M | _ => False
  | .goto _ => K a L st M
  | .ifCond .eq _ => rn_st1 st fun x t => rn_br (x = 0) (K a L t M) (K nx L t M)
  | .ifCond .ne _ => rn_st1 st fun x t => rn_br (x = 0) (K nx L t M) (K a L t M)
  | .ifCond .lt _ => rn_st1 st fun x t => rn_br (x < 0) (K a L t M) (K nx L t M)
  | .ifCond .ge _ => rn_st1 st fun x t => rn_br (0 ≤ x) (K a L t M) (K nx L t M)
  | .ifCond .gt _ => rn_st1 st fun x t => rn_br (0 < x) (K a L t M) (K nx L t M)
  | .ifCond .le _ => rn_st1 st fun x t => rn_br (x ≤ 0) (K a L t M) (K nx L t M)
  | .if_icmp .eq _ => rn_st2 st fun x y t => rn_br (x = y) (K a L t M) (K nx L t M)
  | .if_icmp .ne _ => rn_st2 st fun x y t => rn_br (x = y) (K nx L t M) (K a L t M)
  | .if_icmp .lt _ => rn_st2 st fun x y t => rn_br (x < y) (K a L t M) (K nx L t M)
  | .if_icmp .ge _ => rn_st2 st fun x y t => rn_br (x < y) (K nx L t M) (K a L t M)
  | .if_icmp .gt _ => rn_st2 st fun x y t => rn_br (y < x) (K a L t M) (K nx L t M)
  | .if_icmp .le _ => rn_st2 st fun x y t => rn_br (x ≤ y) (K a L t M) (K nx L t M)
  | .ifnull _ => match st with | .inr (.inl (some none)) :: t => K a L t M | .inr (.inl (some (some _))) :: t => K nx L t M | _ => False
  | .ifnonnull _ => match st with | .inr (.inl (some none)) :: t => K nx L t M | .inr (.inl (some (some _))) :: t => K a L t M | _ => False
  | .tableswitch _ lo hi _ => rn_st1 st fun x t => rn_br (x < lo ∨ hi < x) (K a L t M) (rn_sw ts (x - lo).toNat fun p => K p L t M)
  | .getfield _ => rn_stR st fun r t => rn_kd M r = c ∧ K nx L (rn_fv k M r b :: t) M
  | .putfield _ => rn_put k st M b fun r M' t => rn_kd M r = c ∧ K nx L t M'
  | .getstatic _ => K nx L (.inr (.inl (some (some a))) :: st) M
  | .ldc _ => K nx L (.inl (a : Int) :: st) M
  | .iaload => rn_stA st fun r i t => (rn_kd M r = 20 ∨ rn_kd M r = 21) ∧ rn_in M r i ∧ K nx L (.inl (rn_gi M r i.toNat) :: t) M
  | .iastore => match st with | .inl x :: .inl i :: .inr (.inl (some (some r))) :: t => rn_kd M r = 20 ∧ rn_in M r i ∧ K nx L t (rn_si M r i.toNat x) | _ => False
  | .aaload => rn_stA st fun r i t => 30 ≤ rn_kd M r ∧ rn_in M r i ∧ K nx L (.inr (.inl (some (rn_gr M r i.toNat))) :: t) M
  | .aastore => match st with | .inr (.inl (some (some v))) :: .inl i :: .inr (.inl (some (some r))) :: t => 30 ≤ rn_kd M r ∧ rn_kd M v + 29 = rn_kd M r ∧ rn_in M r i ∧ K nx L t (rn_sr M r i.toNat (some v)) | _ => False
  | .arraylength => rn_stR st fun r t => (rn_kd M r = 20 ∨ rn_kd M r = 21) ∧ K nx L (.inl (rn_ln M r) :: t) M
  | .new _ => 1 ≤ M.2.1.1 ∧ nf a ≤ M.2.1.2 ∧ K nx L (.inr (.inl (some (some M.1.length))) :: st) (rn_nw M (a + 1) (nf a))
  | .newarray _ => rn_st1 st fun n t => 0 ≤ n ∧ n ≤ 100000 ∧ 1 ≤ M.2.1.1 ∧ n.toNat ≤ M.2.1.2 ∧ K nx L (.inr (.inl (some (some M.1.length))) :: t) (rn_nw M 20 n.toNat)
  | .anewarray _ => rn_st1 st fun n t => 0 ≤ n ∧ n ≤ 100000 ∧ 1 ≤ M.2.1.1 ∧ n.toNat ≤ M.2.1.2 ∧ K nx L (.inr (.inl (some (some M.1.length))) :: t) (rn_nw M (a + 30) n.toNat)
  | .invokevirtual _ => rn_g (Nat.ble b st.length && (Nat.ble (rn_sz (st.drop b)) 8 && rn_n2 (st.take b))) (rn_rcv (st.take b).reverse fun r => rn_kd M r = c ∧ rn_cal k a (mcs a).1 (mcs a).2 (st.take b).reverse M C fun v M' => K nx L (v.toList ++ st.drop b) M')
  | .invokestatic _ => match k with
    | 3 => rn_acp st fun n dp d sp s t => rn_g (Nat.ble (rn_sz t) 8) (rn_kd M s = 20 ∧ rn_kd M d = 20 ∧ 0 ≤ n ∧ 0 ≤ dp ∧ 0 ≤ sp ∧ sp + n ≤ (rn_ln M s : Int) ∧ dp + n ≤ (rn_ln M d : Int) ∧ K nx L t (rn_cpy M s d sp.toNat dp.toNat n.toNat))
    | 5 => rn_st2 st fun x y t => rn_g (Nat.ble (rn_sz t) 8) (K nx L (.inl (max x y) :: t) M)
    | 6 => rn_st2 st fun x y t => rn_g (Nat.ble (rn_sz t) 8) (K nx L (.inl (min x y) :: t) M)
    | 7 => rn_st1 st fun x t => rn_g (Nat.ble (rn_sz t) 8) (K nx L (.inl (rn_wr (max x (-x))) :: t) M)
    | _ => rn_g (Nat.ble b st.length && (Nat.ble (rn_sz (st.drop b)) 8 && rn_n2 (st.take b))) (rn_cal k a (mcs a).1 (mcs a).2 (st.take b).reverse M C fun v M' => K nx L (v.toList ++ st.drop b) M')
  | .invokespecial _ => match k with
    | 2 => rn_stR st fun _ t => rn_g (Nat.ble (rn_sz t) 8) (K nx L t M)
    | _ => rn_g (Nat.ble b st.length && (Nat.ble (rn_sz (st.drop b)) 8 && rn_n2 (st.take b))) (rn_rcv (st.take b).reverse fun r => rn_kd M r = c ∧ rn_cal k a (mcs a).1 (mcs a).2 (st.take b).reverse M C fun v M' => K nx L (v.toList ++ st.drop b) M')
  | .ireturn => match st with | [.inl x] => rn_okr k x ∧ Q (some (.inl x)) M | _ => False
  | .lreturn => match st with | [.inr (.inr x)] => Q (some (.inr (.inr x))) M | _ => False
  | .areturn => match st with | [.inr (.inl (some r))] => Q (some (.inr (.inl (some r)))) M | _ => False
  | .return_ => match st with | [] => Q none M | _ => False
  | _ => False
