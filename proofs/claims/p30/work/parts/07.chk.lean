/-! what the entries must keep to, as a program; and that they do -/
def rn_al (mt : rn_Mt) : Bool := mt.2.2.2.2.1
def rn_fr (mt : rn_Mt) : Nat := mt.2.2.2.2.2.2.2.1
def rn_lw (mt : rn_Mt) : Nat := mt.2.2.2.2.2.2.2.2.1
def rn_mc (mt : rn_Mt) : Nat := mt.2.2.2.2.2.1
def rn_ms (mt : rn_Mt) : Nat := mt.2.2.2.2.2.2.1
def rn_lg (mt : rn_Mt) : Bool := decide (mt.1.cls = "RiverNamesLaw")
def rn_kk (k : Nat) (mt : rn_Mt) : Bool := match k with | 0 => !rn_lg mt | _ => true
def rn_tb (mt : rn_Mt) : List (Nat × rn_E) := mt.2.2.2.2.2.2.2.2.2
def rn_hw (t : Nat) (w : Cond) : Bool := decide (lw_tbl[t]? = some w) && goodWord w
theorem rn_hw_mem {t : Nat} {w : Cond} (h : rn_hw t w = true) : w ∈ rn_Wd := by
  unfold rn_hw at h
  rw [Bool.and_eq_true, decide_eq_true_eq] at h
  exact rn_Wd_mem h.1 h.2
def rn_hn (t : Nat) (w : Cond) : Bool := decide (rn_nst[t]? = some w)
theorem rn_hn_mem {t : Nat} {w : Cond} (h : rn_hn t w = true) : w ∈ rn_nst := by
  unfold rn_hn at h
  rw [decide_eq_true_eq] at h
  exact List.mem_of_getElem? h
def rn_rk (r : Option FieldType) : Nat := match r with | some .int => 0 | some .boolean => 1 | some .byte => 2 | some .char => 3 | some (.object _) => 4 | none => 5 | some .long => 6 | _ => 7
def rn_plain (s : String) : Bool := decide (s ≠ "java/lang/invoke/MethodHandle") && decide (s ≠ "java/lang/invoke/VarHandle")
/-- the methods with many bytes: their code is known by name -/
def rn_big (z : Nat) : Bool := Nat.ble 123 z && Nat.ble z 132
/-- the callee of a call in method mt: kind of the call, arguments -/
def rn_chc (mt : rn_Mt) (kd z b k : Nat) (nst : Bool) (t idx : Nat) : Bool := match rn_mt z, rn_mpl[z]? with
  | some mz, some (kz, pa, pb, pc, pd) => decide (kz = kd) && (rn_big z || rn_hw pa (.code mz.1 mz.2.1 mz.2.2.1 mz.2.2.2.1)) && rn_hw pb (.initialized mz.1.cls) &&
    (match kd with
      | 0 => rn_hw pc (.instanceMethod mz.1) && rn_hw pd (.selects mz.1.cls mz.1 mz.1)
      | 1 => rn_hw pc (.static mz.1)
      | _ => rn_hw pc (.instanceMethod mz.1) && decide (mz.1.name = "<init>") && decide (mz.2.2.2.1 = none)) &&
    (match nst with | true => rn_hn t (.methodLinkNest mt.1.cls idx mz.1 "RiverNames") | false => rn_hw t (.methodLink mt.1.cls idx mz.1)) &&
    rn_plain mz.1.cls && decide ((parseMethodDescriptor mz.1.desc).map (fun d => d.parameters.length) = some (match kd with | 1 => b | _ => b - 1)) && decide (1 ≤ b ∨ kd = 1) &&
    decide (rn_fr mz + 1 ≤ rn_fr mt) && decide (8 + (mz.2.2.1 + 11) + rn_lw mz ≤ rn_lw mt) &&
    (match k with | 4 => rn_al mt | _ => decide (rn_al mz = false) && decide (rn_mc mz = 0) && decide (rn_ms mz = 0)) && plainName mz.1.cls && decide (b ≤ mz.2.2.1)
  | _, _ => false
def rn_chi (mt : rn_Mt) (pc : Nat) (e : rn_E) : Bool :=
  match e with
  | (ins, nx, a, b, t, k, c, ts) =>
  match ins with
  | .iconst n => decide (nx = pc + 1) && decide (-2147483648 ≤ n ∧ n ≤ 2147483647)
  | .bipush n => decide (nx = pc + 2) && decide (((Int8.ofInt n).toInt32).toInt = n)
  | .sipush n => decide (nx = pc + 3) && decide (((Int16.ofInt n).toInt32).toInt = n)
  | .aconst_null => decide (nx = pc + 1)
  | .iload i => decide (nx = pc + 2) && decide (i = a)
  | .iload_n i => decide (nx = pc + 1) && decide (i.val = a)
  | .aload i => decide (nx = pc + 2) && decide (i = a)
  | .aload_n i => decide (nx = pc + 1) && decide (i.val = a)
  | .istore i => decide (nx = pc + 2) && decide (i = a) && rn_kk k mt
  | .istore_n i => decide (nx = pc + 1) && decide (i.val = a) && rn_kk k mt
  | .astore i => decide (nx = pc + 2) && decide (i = a) && rn_kk k mt
  | .astore_n i => decide (nx = pc + 1) && decide (i.val = a) && rn_kk k mt
  | .iinc i _ => decide (nx = pc + 3) && decide (i = a)
  | .lload i => decide (nx = pc + 2) && decide (i = a)
  | .lload_n i => decide (nx = pc + 1) && decide (i.val = a)
  | .lstore i => decide (nx = pc + 2) && decide (i = a) && rn_kk k mt && rn_lg mt
  | .lstore_n i => decide (nx = pc + 1) && decide (i.val = a) && rn_kk k mt && rn_lg mt
  | .ladd => decide (nx = pc + 1)
  | .lmul => decide (nx = pc + 1)
  | .lcmp => decide (nx = pc + 1)
  | .i2l => decide (nx = pc + 1)
  | .ldc2_w idx => decide (nx = pc + 3) && rn_hw t (.constantLong mt.1.cls idx (Int64.ofNat a))
  | .idiv => decide (nx = pc + 1)
  | .irem => decide (nx = pc + 1)
  | .ixor => decide (nx = pc + 1)
  | .iushr => decide (nx = pc + 1)
  | .iadd => decide (nx = pc + 1)
  | .isub => decide (nx = pc + 1)
  | .imul => decide (nx = pc + 1)
  | .iand => decide (nx = pc + 1)
  | .ior => decide (nx = pc + 1)
  | .ishl => decide (nx = pc + 1)
  | .ishr => decide (nx = pc + 1)
  | .ineg => decide (nx = pc + 1)
  | .i2c => decide (nx = pc + 1)
  | .dup => decide (nx = pc + 1)
  | .pop => decide (nx = pc + 1)
  | .goto o => decide (nx = pc + 3) && decide ((pc : Int) + o = (a : Int))
  | .ifCond _ o => decide (nx = pc + 3) && decide ((pc : Int) + o = (a : Int))
  | .if_icmp _ o => decide (nx = pc + 3) && decide ((pc : Int) + o = (a : Int))
  | .ifnull o => decide (nx = pc + 3) && decide ((pc : Int) + o = (a : Int))
  | .ifnonnull o => decide (nx = pc + 3) && decide ((pc : Int) + o = (a : Int))
  | .tableswitch d lo _ offs => decide ((pc : Int) + d = (a : Int)) && decide (offs.toList.map (fun (o : Int) => (pc : Int) + o) = ts.map (fun (n : Nat) => (n : Int))) && decide (-2147483648 ≤ lo)
  | .getfield idx => decide (nx = pc + 3) && (decide (c = a + 1) && decide (a < 11) && decide (b < rn_nf a) && decide (k = rn_fk a b) && rn_hw t (.fieldLink mt.1.cls idx (rn_T a b).1 (rn_T a b).2.1 (rn_T a b).2.2.1))
  | .putfield idx => decide (nx = pc + 3) && decide (c = a + 1) && decide (a < 11) && decide (b < rn_nf a) && decide (k = rn_fk a b) && rn_hw t (.fieldLink mt.1.cls idx (rn_T a b).1 (rn_T a b).2.1 (rn_T a b).2.2.1) &&
      (match k, rn_ty a b with | 0, .int => true | 1, .boolean => true | 2, .object _ => true | 2, .array _ => true | _, _ => false) &&
      (match (rn_T a b).2.2.2 with | true => decide (mt.1.name = "<init>") && decide ((rn_T a b).1 = mt.1.cls) | false => true)
  | .getstatic idx => decide (nx = pc + 3) && (match b with
      | 1 => (match a with | 1 => rn_hn t (.fieldLinkNest mt.1.cls idx "RiverNames" "STEPS_RIGHT" "[I" "RiverNames") | 2 => rn_hn t (.fieldLinkNest mt.1.cls idx "RiverNames" "STEPS_DOWN" "[I" "RiverNames") | _ => false)
      | _ => false)
  | .ldc idx => decide (nx = pc + 2) && rn_hw t (.constant mt.1.cls idx (Int32.ofInt (a : Int))) && decide ((a : Int) ≤ 2147483647)
  | .iaload => decide (nx = pc + 1)
  | .iastore => decide (nx = pc + 1)
  | .aaload => decide (nx = pc + 1)
  | .aastore => decide (nx = pc + 1)
  | .arraylength => decide (nx = pc + 1)
  | .new idx => decide (nx = pc + 3) && decide (a < 11) && rn_al mt && rn_hw t (.classLink mt.1.cls idx (rn_cn a)) && (match rn_cpl[a]? with | some (pa, pb) => rn_hw pa (.instantiable (rn_cn a) (rn_nf a)) && rn_hw pb (.initialized (rn_cn a)) | none => false)
  | .newarray ty => decide (nx = pc + 2) && rn_al mt && decide (ty = .int)
  | .anewarray idx => decide (nx = pc + 3) && rn_al mt && decide (a = 0 ∨ a = 3 ∨ a = 5 ∨ a = 8) && rn_hw t (.classLink mt.1.cls idx (rn_cn a))
  | .invokevirtual idx => decide (nx = pc + 3) && decide (ts = [0]) && (match c with | 0 => false | c + 1 => decide (c < 11) && (match rn_mt a with | some mz => decide (mz.1.cls = rn_cn c) | none => false)) && rn_chc mt 0 a b k false t idx
  | .invokestatic idx => decide (nx = pc + 3) && (match k with
      | 3 => rn_hw t (.methodLink mt.1.cls idx arraycopyName) && decide (1 ≤ rn_fr mt) && decide (38 ≤ rn_lw mt)
      | 5 => rn_hw t (.methodLink mt.1.cls idx Lib.Math.max.name) && decide (1 ≤ rn_fr mt) && decide (21 ≤ rn_lw mt)
      | 6 => rn_hw t (.methodLink mt.1.cls idx Lib.Math.min.name) && decide (1 ≤ rn_fr mt) && decide (21 ≤ rn_lw mt)
      | 7 => rn_hw t (.methodLink mt.1.cls idx Lib.Math.abs.name) && decide (1 ≤ rn_fr mt) && decide (21 ≤ rn_lw mt)
      | _ => (match ts with | [0] => rn_chc mt 1 a b k false t idx | [1] => rn_chc mt 1 a b k true t idx | _ => false))
  | .invokespecial idx => decide (nx = pc + 3) && (match k with
      | 2 => rn_hw t (.methodLink mt.1.cls idx Lib.objectInit) && decide (1 ≤ rn_fr mt) && decide (20 ≤ rn_lw mt)
      | _ => (match ts with | [0] => rn_chc mt 2 a b k false t idx | [1] => rn_chc mt 2 a b k true t idx | _ => false))
  | .ireturn => decide (nx = pc + 1) && decide (k = rn_rk mt.2.2.2.1) && decide (k ≤ 3)
  | .lreturn => decide (nx = pc + 1) && decide (rn_rk mt.2.2.2.1 = 6)
  | .areturn => decide (nx = pc + 1) && decide (rn_rk mt.2.2.2.1 = 4)
  | .return_ => decide (nx = pc + 1) && decide (rn_rk mt.2.2.2.1 = 5)
  | _ => false
def rn_che (mt : rn_Mt) (q : Nat × rn_E) : Bool := decide (decode mt.2.1 q.1 = .ok (q.2.1, q.2.2.1 - q.1)) && rn_chi mt q.1 q.2
def rn_chm (mt : rn_Mt) : Bool := (rn_tb mt).all (rn_che mt)
