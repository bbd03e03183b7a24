/-- the machine's own and the library's: 1001 max, 1002 min, 1003 abs, 1004 arraycopy, 1005 clone, 1006 length, 1007 charAt -/
def hc_prim (d a nx : Nat) (L st : List hc_V) (h : hc_H) : hc_K := match d with
  | 0 => none
  | d0 + 1 => bif Nat.ble (hc_sz st) 8 then (match a with
    | 1001 => hc_b3 (fun x y => if x < y then y else x) nx L st h
    | 1002 => hc_b3 (fun x y => if y < x then y else x) nx L st h
    | 1003 => hc_u1 (fun x => if 0 ≤ x then x else 0 - x) nx L st h
    | 1004 => hc_copy nx L st h
    | 1005 => hc_clone nx L st h
    | 1006 => if 4 ≤ d0 + 1 then hc_slen nx L st h else none
    | 1007 => if 4 ≤ d0 + 1 then hc_chat nx L st h else none
    | _ => none) else none
def hc_oinit (d nx : Nat) (L st : List hc_V) (h : hc_H) : hc_K := match d with
  | 0 => none
  | _ + 1 => hc_oin nx L st h
def hc_ldk (a b nx : Nat) (L st : List hc_V) (h : hc_H) : hc_K := match b with
  | 0 => hc_go nx L (xI (a : Int) :: st) h
  | _ => hc_go nx L (xR a :: st) h
def hc_ld2 (a b nx : Nat) (L st : List hc_V) (h : hc_H) : hc_K := match b with
  | 0 => hc_go nx L (xL (a : Int) :: st) h
  | _ => hc_go nx L (xL (-(a : Int)) :: st) h
def hc_aty (t : ArrayType) (nx : Nat) (L st : List hc_V) (h : hc_H) : hc_K := match t with
  | .int => hc_newa 0 nx L st h
  | .long => hc_newa 1 nx L st h
  | .boolean => hc_newa 2 nx L st h
  | _ => none
def hc_kind (d : Nat) (ty : Option FieldType) (pc : Nat) (e : hc_I) (L st : List hc_V) (h : hc_H) : hc_K := match e with
  | (nx, ins, a, b, _, v) => match ins with
    | .aconst_null => hc_go nx L (xN :: st) h
    | .aload i => hc_lda i nx L st h
    | .aload_n k => hc_lda k.val nx L st h
    | .iload i => hc_ldi i nx L st h
    | .iload_n k => hc_ldi k.val nx L st h
    | .lload i => hc_ldl i nx L st h
    | .lload_n k => hc_ldl k.val nx L st h
    | .astore i => hc_sta i nx L st h
    | .astore_n k => hc_sta k.val nx L st h
    | .istore i => hc_sti i nx L st h
    | .istore_n k => hc_sti k.val nx L st h
    | .lstore i => hc_stl i nx L st h
    | .lstore_n k => hc_stl k.val nx L st h
    | .iinc i c => hc_inc i c nx L st h
    | .iconst n => hc_go nx L (xI n :: st) h
    | .bipush n => hc_go nx L (xI n :: st) h
    | .sipush n => hc_go nx L (xI n :: st) h
    | .lconst n => hc_go nx L (xL (n.val : Int) :: st) h
    | .ldc _ => hc_ldk a b nx L st h
    | .ldc_w _ => hc_go nx L (xI (a : Int) :: st) h
    | .ldc2_w _ => hc_ld2 a b nx L st h
    | .iadd => hc_b2 (fun x y => x + y) nx L st h
    | .isub => hc_b2 (fun x y => x - y) nx L st h
    | .imul => hc_b2 (fun x y => x * y) nx L st h
    | .idiv => hc_dv nx L st h
    | .irem => hc_rm nx L st h
    | .ineg => hc_u1 (fun x => -x) nx L st h
    | .iand => hc_b3 hc_and nx L st h
    | .ior => hc_b3 hc_or nx L st h
    | .ixor => hc_b3 hc_xor nx L st h
    | .ishl => hc_b3 hc_shl nx L st h
    | .ishr => hc_b3 hc_shr nx L st h
    | .iushr => hc_b3 hc_ushr nx L st h
    | .ladd => hc_l2 (fun x y => x + y) nx L st h
    | .lsub => hc_l2 (fun x y => x - y) nx L st h
    | .lmul => hc_l2 (fun x y => x * y) nx L st h
    | .ldiv => hc_ldv nx L st h
    | .lrem => hc_lrm nx L st h
    | .lneg => hc_ul (fun x => -x) nx L st h
    | .lor => hc_llor nx L st h
    | .lshl => hc_llsh nx L st h
    | .lcmp => hc_lcmp nx L st h
    | .i2l => hc_i2l nx L st h
    | .l2i => hc_kl2i nx L st h
    | .dup => hc_dup nx L st h
    | .dup2 => hc_dup2 nx L st h
    | .goto _ => hc_go a L st h
    | .ifCond q _ => hc_if q a nx L st h
    | .if_icmp q _ => hc_icmp q a nx L st h
    | .ifnull _ => hc_nul a nx L st h
    | .ifnonnull _ => hc_nul nx a L st h
    | .tableswitch df lo hi offs => hc_tsw pc df lo hi offs L st h
    | .lookupswitch df ps => hc_lsw pc df ps L st h
    | .getfield _ => hc_getf a b nx L st h
    | .putfield _ => hc_putf a b (v / 4) nx L st h
    | .new _ => hc_new (hc_gt hc_D a) a nx L st h
    | .newarray t => hc_aty t nx L st h
    | .anewarray _ => hc_newr nx L st h
    | .arraylength => hc_len nx L st h
    | .iaload => hc_ald nx L st h
    | .laload => hc_lald nx L st h
    | .baload => hc_bald nx L st h
    | .aaload => hc_aald nx L st h
    | .iastore => hc_ast nx L st h
    | .lastore => hc_last nx L st h
    | .bastore => hc_bast nx L st h
    | .aastore => hc_aast nx L st h
    | .checkcast _ => hc_cast nx L st h
    | .invokestatic _ => bif Nat.ble 1000 a then hc_prim d a nx L st h else hc_inv 0 a b 0 nx L st h
    | .invokevirtual _ => bif Nat.ble 1000 a then hc_prim d a nx L st h else hc_inv 1 a b (v / 4) nx L st h
    | .invokespecial _ => bif Nat.ble 1000 a then hc_oinit d nx L st h else hc_inv 2 a b 0 nx L st h
    | .ireturn => hc_rti ty st h
    | .lreturn => hc_rtl ty st h
    | .areturn => hc_rta ty st h
    | .return_ => hc_rtv ty st h
    | _ => none
def hc_run : Nat → Nat → hc_M → Nat → List hc_V → List hc_V → hc_H → Option (List hc_V × hc_H)
  | 0, _, _, _, _, _, _ => none
  | n + 1, d, mi, pc, L, st, h => match hc_gt mi.2.2.2.2.2.2.2 pc with
    | none => none
    | some e => match hc_kind d mi.2.2.2.1 pc e L st h with
      | none => none
      | some (.inl r) => some r
      | some (.inr (.inl (pc', L', st', h'))) => hc_run n d mi pc' L' st' h'
      | some (.inr (.inr (a, vs, nx, rest))) => match d, hc_gt hc_MT a with
        | d' + 1, some mj => bif Nat.ble (hc_fl vs).length mj.2.2.1 then (match hc_run n d' mj 0 (hc_ent mj.2.2.1 vs) [] h with
          | some (v, h') => hc_run n d mi nx L (v ++ rest) h'
          | none => none) else none
        | _, _ => none
