/-! THE CHECKS: each row of the tables is what the bytecode and the tables' words say; by the kernel. -/
def hc_w (i : Nat) (c : Cond) : Bool := decide (hc_gt lw_tbl i = some c) && goodWord c
/-- links to private members of a nest mate: words that go along by themselves -/
def hc_nst : Cond → Bool
  | .fieldLinkNest .. => true
  | .methodLinkNest .. => true
  | _ => false
def hc_wn (i : Nat) (c : Cond) : Bool := decide (hc_gt lw_tbl i = some c) && hc_nst c
def hc_l0 (i : Instr) : Nat := match i with
  | .aload _ | .iload _ | .lload _ | .astore _ | .istore _ | .lstore _ | .bipush _ | .ldc _ | .newarray _ => 2
  | .iinc _ _ | .sipush _ | .ldc_w _ | .ldc2_w _ | .goto _ | .ifCond _ _ | .if_icmp _ _ | .ifnull _ | .ifnonnull _ | .getfield _ | .putfield _ | .new _ | .anewarray _ | .checkcast _ | .invokestatic _ | .invokevirtual _ | .invokespecial _ => 3
  | _ => 1
def hc_fk (t : Nat) (d : String) : Bool := match parseFieldDescriptor d with
  | some .int => Nat.beq t 0
  | some .boolean => Nat.beq t 1
  | some .long => Nat.beq t 2
  | some (.object _) => Nat.beq t 3
  | some (.array _) => Nat.beq t 3
  | _ => false
/-- a field's row: a the class, b the field, w its link word, v how -/
def hc_okf (own : String) (i a b w v : Nat) : Bool := match hc_gt vwCl a with
  | some (C, T, N) => Nat.blt b N && (match (T b) with
    | (D, n, d, _) => (decide (D = C) && hc_fk (v / 4) d) && (bif Nat.beq (v % 2) 0 then hc_w w (.fieldLink own i C n d) else hc_wn w (.fieldLinkNest own i C n d "CathedralCoin")))
  | none => false
def hc_okp (own : String) (kind a b v : Nat) : Bool := match hc_gt vwCl a with
  | some (C, T, _) => (match (T b) with
    | (_, _, _, fin) => bif fin then (Nat.beq kind 2 && decide (own = C) && Nat.beq (v % 2) 0) else true)
  | none => false
def hc_okc (own : String) (k i a b w v : Nat) : Bool := match hc_gt hc_MT a with
  | some mj => Nat.beq mj.2.2.2.2.1 k && Nat.beq mj.2.2.2.2.2.1 b && (bif Nat.beq (v % 2) 0 then hc_w w (.methodLink own i mj.1) else hc_wn w (.methodLinkNest own i mj.1 "CathedralCoin")) && (bif Nat.beq k 1 then (match hc_gt vwCl (v / 4) with
    | some (C, _, _) => decide (C = mj.1.cls)
    | none => false) else true)
  | none => false
def hc_okm (own : String) (i a w : Nat) (st : Bool) : Bool := match a with
  | 1001 => st && hc_w w (.methodLink own i Lib.Math.max.name)
  | 1002 => st && hc_w w (.methodLink own i Lib.Math.min.name)
  | 1003 => st && hc_w w (.methodLink own i Lib.Math.abs.name)
  | 1004 => st && hc_w w (.methodLink own i arraycopyName)
  | 1005 => !st && hc_w w (.methodLink own i ⟨"[I", "clone", "()Ljava/lang/Object;"⟩)
  | 1006 => !st && hc_w w (.methodLink own i ⟨"java/lang/String", "length", "()I"⟩)
  | 1007 => !st && hc_w w (.methodLink own i ⟨"java/lang/String", "charAt", "(I)C"⟩)
  | _ => false
def hc_oko (own : String) (kind pc : Nat) (e : hc_I) : Bool := match e with
  | (_, ins, a, b, w, v) => match ins with
    | .iconst n => decide (-128 ≤ n) && decide (n ≤ 127)
    | .bipush n => decide (-128 ≤ n) && decide (n ≤ 127)
    | .sipush n => decide (-32768 ≤ n) && decide (n ≤ 32767)
    | .iinc _ n => decide (-128 ≤ n) && decide (n ≤ 127)
    | .goto off => decide ((pc : Int) + off = (a : Int))
    | .ifCond _ off => decide ((pc : Int) + off = (a : Int))
    | .if_icmp _ off => decide ((pc : Int) + off = (a : Int))
    | .ifnull off => decide ((pc : Int) + off = (a : Int))
    | .ifnonnull off => decide ((pc : Int) + off = (a : Int))
    | .ldc i => (match b with
      | 0 => Nat.blt a 2147483648 && hc_w w (.constant own i (Int32.ofNat a))
      | _ => (match hc_gt hc_S (a - 1) with
        | some (o, j, tx) => Nat.ble 1 a && decide (o = own) && Nat.beq j i
        | none => false))
    | .ldc_w i => Nat.blt a 2147483648 && hc_w w (.constant own i (Int32.ofNat a))
    | .ldc2_w i => Nat.blt a 2147483648 && (match b with
      | 0 => hc_w w (.constantLong own i (Int64.ofNat a))
      | _ => hc_w w (.constantLong own i (-(Int64.ofNat a))))
    | .getfield i => hc_okf own i a b w v
    | .putfield i => hc_okf own i a b w v && hc_okp own kind a b v
    | .new i => (match hc_gt vwCl a with
      | some (C, _, _) => hc_w w (.classLink own i C)
      | none => false)
    | .anewarray i => hc_w w (.classLink own i "CathedralCoin$Text")
    | .checkcast i => hc_w w (.classLink own i "[I")
    | .invokestatic i => bif Nat.ble 1000 a then hc_okm own i a w true else hc_okc own 0 i a b w v
    | .invokevirtual i => bif Nat.ble 1000 a then hc_okm own i a w false else hc_okc own 1 i a b w v
    | .invokespecial i => bif Nat.ble 1000 a then hc_w w (.methodLink own i Lib.objectInit) else hc_okc own 2 i a b w v
    | _ => true
def hc_ok1 (own : String) (bytes : ByteArray) (kind pc : Nat) (e : hc_I) : Bool := match e.2.1 with
  | .nop => true
  | .tableswitch _ _ _ _ => decide (decode bytes pc = .ok (e.2.1, e.1 - pc))
  | .lookupswitch _ ps => decide (decode bytes pc = .ok (e.2.1, e.1 - pc)) && (ps.toList.zip (ps.toList.drop 1)).all (fun (a, next) => a.1 < next.1)
  | i => decide (decode bytes pc = .ok (i, hc_l0 i)) && Nat.beq e.1 (pc + hc_l0 i) && hc_oko own kind pc e
/-- the rows from place pc on, n of them -/
def hc_okl (own : String) (bytes : ByteArray) (kind : Nat) : List hc_I → Nat → Bool
  | [], _ => true
  | e :: l, pc => hc_ok1 own bytes kind pc e && hc_okl own bytes kind l (pc + 1)
def hc_okh (mi : hc_M) : Bool := match mi with
  | (y, _, n, ret, k, np, ws, _) => (plainName y.cls && decide (y.cls ≠ "java/lang/invoke/MethodHandle") && decide (y.cls ≠ "java/lang/invoke/VarHandle") && decide ((parseMethodDescriptor y.desc).map (fun d => d.parameters.length) = some np) && Nat.ble n 40) &&
    (match ws with
    | [_, w1, w2, w3] => hc_w w1 (.initialized y.cls) && (match k with
      | 0 => hc_w w2 (.static y)
      | 1 => hc_w w2 (.instanceMethod y) && hc_w w3 (.selects y.cls y y)
      | _ => hc_w w2 (.instanceMethod y) && decide (y.name = "<init>") && decide (ret = none))
    | _ => false)
theorem hc_gt_drop {α : Type} : ∀ (l : List α) (k n : Nat), hc_gt (l.drop k) n = hc_gt l (k + n)
  | [], k, n => by simp [hc_gt]
  | a :: l, 0, n => by simp
  | a :: l, k + 1, n => by
    rw [List.drop_succ_cons, hc_gt_drop l k n, show k + 1 + n = (k + n) + 1 by omega]
    rfl
theorem hc_okl_at {own : String} {bytes : ByteArray} {kind : Nat} : ∀ (l : List hc_I) (pc : Nat), hc_okl own bytes kind l pc = true → ∀ (n : Nat) (e : hc_I), hc_gt l n = some e → hc_ok1 own bytes kind (pc + n) e = true
  | [], _, _, n, e, h => by simp [hc_gt] at h
  | a :: l, pc, h, 0, e, he => by
    simp only [hc_okl, Bool.and_eq_true] at h
    simp only [hc_gt, Option.some.injEq] at he
    subst he
    exact h.1
  | a :: l, pc, h, n + 1, e, he => by
    simp only [hc_okl, Bool.and_eq_true] at h
    have := hc_okl_at l (pc + 1) h.2 n e he
    rw [show pc + (n + 1) = pc + 1 + n by omega]
    exact this
/-- a part of the rows, cut out -/
theorem hc_okl_part {own : String} {bytes : ByteArray} {kind : Nat} (l : List hc_I) (k m : Nat) (h : hc_okl own bytes kind ((l.drop k).take m) k = true) (n : Nat) (h1 : k ≤ n) (h2 : n < k + m) (e : hc_I) (he : hc_gt l n = some e) : hc_ok1 own bytes kind n e = true := by
  have gt_take : ∀ (q : List hc_I) (i j : Nat), i < j → hc_gt (q.take j) i = hc_gt q i := by
    intro q
    induction q with
    | nil => intro i j _; simp [hc_gt]
    | cons a q ih =>
      intro i j hij
      cases j with
      | zero => omega
      | succ j =>
        cases i with
        | zero => rfl
        | succ i => exact ih i j (by omega)
  have := hc_okl_at _ k h (n - k) e (by rw [gt_take _ _ _ (by omega), hc_gt_drop, show k + (n - k) = n by omega]; exact he)
  rwa [show k + (n - k) = n by omega] at this
theorem hc_gt_lt {α : Type} : ∀ (l : List α) (n : Nat) (e : α), hc_gt l n = some e → n < l.length
  | [], n, e, h => by simp [hc_gt] at h
  | a :: l, 0, e, h => by simp
  | a :: l, n + 1, e, h => by
    have := hc_gt_lt l n e h
    simp only [List.length_cons]
    omega
def hc_all (mi : hc_M) : Prop := ∀ (n : Nat) (e : hc_I), hc_gt mi.2.2.2.2.2.2.2 n = some e → hc_ok1 mi.1.cls mi.2.1 mi.2.2.2.2.1 n e = true

set_option maxRecDepth 100000 in
theorem ok_X0_init_0 : hc_okl yX0_init.cls cX0_init 2 ((kX0_init.drop 0).take 60) 0 = true := by decide +kernel
set_option maxRecDepth 100000 in
theorem ok_X0_init : hc_all mX0_init := by
  intro n e h
  have hl : n < 34 := hc_gt_lt kX0_init n e h
  exact hc_okl_part kX0_init 0 60 ok_X0_init_0 n (by omega) (by omega) e h
set_option maxRecDepth 100000 in
theorem ok_X0_becomeLike_0 : hc_okl yX0_becomeLike.cls cX0_becomeLike 1 ((kX0_becomeLike.drop 0).take 60) 0 = true := by decide +kernel
set_option maxRecDepth 100000 in
theorem ok_X0_becomeLike : hc_all mX0_becomeLike := by
  intro n e h
  have hl : n < 54 := hc_gt_lt kX0_becomeLike n e h
  exact hc_okl_part kX0_becomeLike 0 60 ok_X0_becomeLike_0 n (by omega) (by omega) e h
set_option maxRecDepth 100000 in
theorem ok_X0_forget_0 : hc_okl yX0_forget.cls cX0_forget 1 ((kX0_forget.drop 0).take 60) 0 = true := by decide +kernel
set_option maxRecDepth 100000 in
theorem ok_X0_forget : hc_all mX0_forget := by
  intro n e h
  have hl : n < 10 := hc_gt_lt kX0_forget n e h
  exact hc_okl_part kX0_forget 0 60 ok_X0_forget_0 n (by omega) (by omega) e h
set_option maxRecDepth 100000 in
theorem ok_X0_add_0 : hc_okl yX0_add.cls cX0_add 1 ((kX0_add.drop 0).take 60) 0 = true := by decide +kernel
set_option maxRecDepth 100000 in
theorem ok_X0_add_60 : hc_okl yX0_add.cls cX0_add 1 ((kX0_add.drop 60).take 60) 60 = true := by decide +kernel
set_option maxRecDepth 100000 in
theorem ok_X0_add : hc_all mX0_add := by
  intro n e h
  have hl : n < 63 := hc_gt_lt kX0_add n e h
  rcases Nat.lt_or_ge n 60 with q0 | q0
  · exact hc_okl_part kX0_add 0 60 ok_X0_add_0 n (by omega) (by omega) e h
  exact hc_okl_part kX0_add 60 60 ok_X0_add_60 n (by omega) (by omega) e h
set_option maxRecDepth 100000 in
theorem ok_X0_balance_0 : hc_okl yX0_balance.cls cX0_balance 1 ((kX0_balance.drop 0).take 60) 0 = true := by decide +kernel
set_option maxRecDepth 100000 in
theorem ok_X0_balance_60 : hc_okl yX0_balance.cls cX0_balance 1 ((kX0_balance.drop 60).take 60) 60 = true := by decide +kernel
set_option maxRecDepth 100000 in
theorem ok_X0_balance : hc_all mX0_balance := by
  intro n e h
  have hl : n < 64 := hc_gt_lt kX0_balance n e h
  rcases Nat.lt_or_ge n 60 with q0 | q0
  · exact hc_okl_part kX0_balance 0 60 ok_X0_balance_0 n (by omega) (by omega) e h
  exact hc_okl_part kX0_balance 60 60 ok_X0_balance_60 n (by omega) (by omega) e h
set_option maxRecDepth 100000 in
theorem ok_X1_init_0 : hc_okl yX1_init.cls cX1_init 2 ((kX1_init.drop 0).take 60) 0 = true := by decide +kernel
set_option maxRecDepth 100000 in
theorem ok_X1_init : hc_all mX1_init := by
  intro n e h
  have hl : n < 44 := hc_gt_lt kX1_init n e h
  exact hc_okl_part kX1_init 0 60 ok_X1_init_0 n (by omega) (by omega) e h
set_option maxRecDepth 100000 in
theorem ok_X1_work_0 : hc_okl yX1_work.cls cX1_work 1 ((kX1_work.drop 0).take 60) 0 = true := by decide +kernel
set_option maxRecDepth 100000 in
theorem ok_X1_work_60 : hc_okl yX1_work.cls cX1_work 1 ((kX1_work.drop 60).take 60) 60 = true := by decide +kernel
set_option maxRecDepth 100000 in
theorem ok_X1_work_120 : hc_okl yX1_work.cls cX1_work 1 ((kX1_work.drop 120).take 60) 120 = true := by decide +kernel
set_option maxRecDepth 100000 in
theorem ok_X1_work : hc_all mX1_work := by
  intro n e h
  have hl : n < 165 := hc_gt_lt kX1_work n e h
  rcases Nat.lt_or_ge n 60 with q0 | q0
  · exact hc_okl_part kX1_work 0 60 ok_X1_work_0 n (by omega) (by omega) e h
  rcases Nat.lt_or_ge n 120 with q1 | q1
  · exact hc_okl_part kX1_work 60 60 ok_X1_work_60 n (by omega) (by omega) e h
  exact hc_okl_part kX1_work 120 60 ok_X1_work_120 n (by omega) (by omega) e h
set_option maxRecDepth 100000 in
theorem ok_X1_findLowers_0 : hc_okl yX1_findLowers.cls cX1_findLowers 1 ((kX1_findLowers.drop 0).take 60) 0 = true := by decide +kernel
set_option maxRecDepth 100000 in
theorem ok_X1_findLowers_60 : hc_okl yX1_findLowers.cls cX1_findLowers 1 ((kX1_findLowers.drop 60).take 60) 60 = true := by decide +kernel
set_option maxRecDepth 100000 in
theorem ok_X1_findLowers : hc_all mX1_findLowers := by
  intro n e h
  have hl : n < 84 := hc_gt_lt kX1_findLowers n e h
  rcases Nat.lt_or_ge n 60 with q0 | q0
  · exact hc_okl_part kX1_findLowers 0 60 ok_X1_findLowers_0 n (by omega) (by omega) e h
  exact hc_okl_part kX1_findLowers 60 60 ok_X1_findLowers_60 n (by omega) (by omega) e h
set_option maxRecDepth 100000 in
theorem ok_X1_marryLowestOf_0 : hc_okl yX1_marryLowestOf.cls cX1_marryLowestOf 1 ((kX1_marryLowestOf.drop 0).take 60) 0 = true := by decide +kernel
set_option maxRecDepth 100000 in
theorem ok_X1_marryLowestOf_60 : hc_okl yX1_marryLowestOf.cls cX1_marryLowestOf 1 ((kX1_marryLowestOf.drop 60).take 60) 60 = true := by decide +kernel
set_option maxRecDepth 100000 in
theorem ok_X1_marryLowestOf_120 : hc_okl yX1_marryLowestOf.cls cX1_marryLowestOf 1 ((kX1_marryLowestOf.drop 120).take 60) 120 = true := by decide +kernel
set_option maxRecDepth 100000 in
theorem ok_X1_marryLowestOf_180 : hc_okl yX1_marryLowestOf.cls cX1_marryLowestOf 1 ((kX1_marryLowestOf.drop 180).take 60) 180 = true := by decide +kernel
set_option maxRecDepth 100000 in
theorem ok_X1_marryLowestOf : hc_all mX1_marryLowestOf := by
  intro n e h
  have hl : n < 195 := hc_gt_lt kX1_marryLowestOf n e h
  rcases Nat.lt_or_ge n 60 with q0 | q0
  · exact hc_okl_part kX1_marryLowestOf 0 60 ok_X1_marryLowestOf_0 n (by omega) (by omega) e h
  rcases Nat.lt_or_ge n 120 with q1 | q1
  · exact hc_okl_part kX1_marryLowestOf 60 60 ok_X1_marryLowestOf_60 n (by omega) (by omega) e h
  rcases Nat.lt_or_ge n 180 with q2 | q2
  · exact hc_okl_part kX1_marryLowestOf 120 60 ok_X1_marryLowestOf_120 n (by omega) (by omega) e h
  exact hc_okl_part kX1_marryLowestOf 180 60 ok_X1_marryLowestOf_180 n (by omega) (by omega) e h
set_option maxRecDepth 100000 in
theorem ok_X2_init_0 : hc_okl yX2_init.cls cX2_init 2 ((kX2_init.drop 0).take 60) 0 = true := by decide +kernel
set_option maxRecDepth 100000 in
theorem ok_X2_init : hc_all mX2_init := by
  intro n e h
  have hl : n < 60 := hc_gt_lt kX2_init n e h
  exact hc_okl_part kX2_init 0 60 ok_X2_init_0 n (by omega) (by omega) e h
set_option maxRecDepth 100000 in
theorem ok_X2_work_0 : hc_okl yX2_work.cls cX2_work 1 ((kX2_work.drop 0).take 60) 0 = true := by decide +kernel
set_option maxRecDepth 100000 in
theorem ok_X2_work_60 : hc_okl yX2_work.cls cX2_work 1 ((kX2_work.drop 60).take 60) 60 = true := by decide +kernel
set_option maxRecDepth 100000 in
theorem ok_X2_work : hc_all mX2_work := by
  intro n e h
  have hl : n < 109 := hc_gt_lt kX2_work n e h
  rcases Nat.lt_or_ge n 60 with q0 | q0
  · exact hc_okl_part kX2_work 0 60 ok_X2_work_0 n (by omega) (by omega) e h
  exact hc_okl_part kX2_work 60 60 ok_X2_work_60 n (by omega) (by omega) e h
set_option maxRecDepth 100000 in
theorem ok_X2_countSets_0 : hc_okl yX2_countSets.cls cX2_countSets 1 ((kX2_countSets.drop 0).take 60) 0 = true := by decide +kernel
set_option maxRecDepth 100000 in
theorem ok_X2_countSets_60 : hc_okl yX2_countSets.cls cX2_countSets 1 ((kX2_countSets.drop 60).take 60) 60 = true := by decide +kernel
set_option maxRecDepth 100000 in
theorem ok_X2_countSets_120 : hc_okl yX2_countSets.cls cX2_countSets 1 ((kX2_countSets.drop 120).take 60) 120 = true := by decide +kernel
set_option maxRecDepth 100000 in
theorem ok_X2_countSets : hc_all mX2_countSets := by
  intro n e h
  have hl : n < 142 := hc_gt_lt kX2_countSets n e h
  rcases Nat.lt_or_ge n 60 with q0 | q0
  · exact hc_okl_part kX2_countSets 0 60 ok_X2_countSets_0 n (by omega) (by omega) e h
  rcases Nat.lt_or_ge n 120 with q1 | q1
  · exact hc_okl_part kX2_countSets 60 60 ok_X2_countSets_60 n (by omega) (by omega) e h
  exact hc_okl_part kX2_countSets 120 60 ok_X2_countSets_120 n (by omega) (by omega) e h
set_option maxRecDepth 100000 in
theorem ok_X2_lowestSet_0 : hc_okl yX2_lowestSet.cls cX2_lowestSet 1 ((kX2_lowestSet.drop 0).take 60) 0 = true := by decide +kernel
set_option maxRecDepth 100000 in
theorem ok_X2_lowestSet_60 : hc_okl yX2_lowestSet.cls cX2_lowestSet 1 ((kX2_lowestSet.drop 60).take 60) 60 = true := by decide +kernel
set_option maxRecDepth 100000 in
theorem ok_X2_lowestSet : hc_all mX2_lowestSet := by
  intro n e h
  have hl : n < 85 := hc_gt_lt kX2_lowestSet n e h
  rcases Nat.lt_or_ge n 60 with q0 | q0
  · exact hc_okl_part kX2_lowestSet 0 60 ok_X2_lowestSet_0 n (by omega) (by omega) e h
  exact hc_okl_part kX2_lowestSet 60 60 ok_X2_lowestSet_60 n (by omega) (by omega) e h
set_option maxRecDepth 100000 in
theorem ok_X2_payAlong_0 : hc_okl yX2_payAlong.cls cX2_payAlong 1 ((kX2_payAlong.drop 0).take 60) 0 = true := by decide +kernel
set_option maxRecDepth 100000 in
theorem ok_X2_payAlong : hc_all mX2_payAlong := by
  intro n e h
  have hl : n < 57 := hc_gt_lt kX2_payAlong n e h
  exact hc_okl_part kX2_payAlong 0 60 ok_X2_payAlong_0 n (by omega) (by omega) e h
set_option maxRecDepth 100000 in
theorem ok_X2_settle_0 : hc_okl yX2_settle.cls cX2_settle 1 ((kX2_settle.drop 0).take 60) 0 = true := by decide +kernel
set_option maxRecDepth 100000 in
theorem ok_X2_settle_60 : hc_okl yX2_settle.cls cX2_settle 1 ((kX2_settle.drop 60).take 60) 60 = true := by decide +kernel
set_option maxRecDepth 100000 in
theorem ok_X2_settle : hc_all mX2_settle := by
  intro n e h
  have hl : n < 77 := hc_gt_lt kX2_settle n e h
  rcases Nat.lt_or_ge n 60 with q0 | q0
  · exact hc_okl_part kX2_settle 0 60 ok_X2_settle_0 n (by omega) (by omega) e h
  exact hc_okl_part kX2_settle 60 60 ok_X2_settle_60 n (by omega) (by omega) e h
set_option maxRecDepth 100000 in
theorem ok_X3_init_0 : hc_okl yX3_init.cls cX3_init 2 ((kX3_init.drop 0).take 60) 0 = true := by decide +kernel
set_option maxRecDepth 100000 in
theorem ok_X3_init_60 : hc_okl yX3_init.cls cX3_init 2 ((kX3_init.drop 60).take 60) 60 = true := by decide +kernel
set_option maxRecDepth 100000 in
theorem ok_X3_init : hc_all mX3_init := by
  intro n e h
  have hl : n < 82 := hc_gt_lt kX3_init n e h
  rcases Nat.lt_or_ge n 60 with q0 | q0
  · exact hc_okl_part kX3_init 0 60 ok_X3_init_0 n (by omega) (by omega) e h
  exact hc_okl_part kX3_init 60 60 ok_X3_init_60 n (by omega) (by omega) e h
set_option maxRecDepth 100000 in
theorem ok_X3_read_0 : hc_okl yX3_read.cls cX3_read 1 ((kX3_read.drop 0).take 60) 0 = true := by decide +kernel
set_option maxRecDepth 100000 in
theorem ok_X3_read_60 : hc_okl yX3_read.cls cX3_read 1 ((kX3_read.drop 60).take 60) 60 = true := by decide +kernel
set_option maxRecDepth 100000 in
theorem ok_X3_read : hc_all mX3_read := by
  intro n e h
  have hl : n < 118 := hc_gt_lt kX3_read n e h
  rcases Nat.lt_or_ge n 60 with q0 | q0
  · exact hc_okl_part kX3_read 0 60 ok_X3_read_0 n (by omega) (by omega) e h
  exact hc_okl_part kX3_read 60 60 ok_X3_read_60 n (by omega) (by omega) e h
set_option maxRecDepth 100000 in
theorem ok_X3_advance_0 : hc_okl yX3_advance.cls cX3_advance 1 ((kX3_advance.drop 0).take 60) 0 = true := by decide +kernel
set_option maxRecDepth 100000 in
theorem ok_X3_advance : hc_all mX3_advance := by
  intro n e h
  have hl : n < 41 := hc_gt_lt kX3_advance n e h
  exact hc_okl_part kX3_advance 0 60 ok_X3_advance_0 n (by omega) (by omega) e h
set_option maxRecDepth 100000 in
theorem ok_X3_refuse_0 : hc_okl yX3_refuse.cls cX3_refuse 1 ((kX3_refuse.drop 0).take 60) 0 = true := by decide +kernel
set_option maxRecDepth 100000 in
theorem ok_X3_refuse : hc_all mX3_refuse := by
  intro n e h
  have hl : n < 40 := hc_gt_lt kX3_refuse n e h
  exact hc_okl_part kX3_refuse 0 60 ok_X3_refuse_0 n (by omega) (by omega) e h
set_option maxRecDepth 100000 in
theorem ok_X3_expect_0 : hc_okl yX3_expect.cls cX3_expect 1 ((kX3_expect.drop 0).take 60) 0 = true := by decide +kernel
set_option maxRecDepth 100000 in
theorem ok_X3_expect : hc_all mX3_expect := by
  intro n e h
  have hl : n < 21 := hc_gt_lt kX3_expect n e h
  exact hc_okl_part kX3_expect 0 60 ok_X3_expect_0 n (by omega) (by omega) e h
set_option maxRecDepth 100000 in
theorem ok_X3_readClause_0 : hc_okl yX3_readClause.cls cX3_readClause 1 ((kX3_readClause.drop 0).take 60) 0 = true := by decide +kernel
set_option maxRecDepth 100000 in
theorem ok_X3_readClause_60 : hc_okl yX3_readClause.cls cX3_readClause 1 ((kX3_readClause.drop 60).take 60) 60 = true := by decide +kernel
set_option maxRecDepth 100000 in
theorem ok_X3_readClause_120 : hc_okl yX3_readClause.cls cX3_readClause 1 ((kX3_readClause.drop 120).take 60) 120 = true := by decide +kernel
set_option maxRecDepth 100000 in
theorem ok_X3_readClause : hc_all mX3_readClause := by
  intro n e h
  have hl : n < 139 := hc_gt_lt kX3_readClause n e h
  rcases Nat.lt_or_ge n 60 with q0 | q0
  · exact hc_okl_part kX3_readClause 0 60 ok_X3_readClause_0 n (by omega) (by omega) e h
  rcases Nat.lt_or_ge n 120 with q1 | q1
  · exact hc_okl_part kX3_readClause 60 60 ok_X3_readClause_60 n (by omega) (by omega) e h
  exact hc_okl_part kX3_readClause 120 60 ok_X3_readClause_120 n (by omega) (by omega) e h
set_option maxRecDepth 100000 in
theorem ok_X3_readLaw_0 : hc_okl yX3_readLaw.cls cX3_readLaw 1 ((kX3_readLaw.drop 0).take 60) 0 = true := by decide +kernel
set_option maxRecDepth 100000 in
theorem ok_X3_readLaw_60 : hc_okl yX3_readLaw.cls cX3_readLaw 1 ((kX3_readLaw.drop 60).take 60) 60 = true := by decide +kernel
set_option maxRecDepth 100000 in
theorem ok_X3_readLaw : hc_all mX3_readLaw := by
  intro n e h
  have hl : n < 69 := hc_gt_lt kX3_readLaw n e h
  rcases Nat.lt_or_ge n 60 with q0 | q0
  · exact hc_okl_part kX3_readLaw 0 60 ok_X3_readLaw_0 n (by omega) (by omega) e h
  exact hc_okl_part kX3_readLaw 60 60 ok_X3_readLaw_60 n (by omega) (by omega) e h
set_option maxRecDepth 100000 in
theorem ok_X3_readDeed_0 : hc_okl yX3_readDeed.cls cX3_readDeed 1 ((kX3_readDeed.drop 0).take 60) 0 = true := by decide +kernel
set_option maxRecDepth 100000 in
theorem ok_X3_readDeed_60 : hc_okl yX3_readDeed.cls cX3_readDeed 1 ((kX3_readDeed.drop 60).take 60) 60 = true := by decide +kernel
set_option maxRecDepth 100000 in
theorem ok_X3_readDeed_120 : hc_okl yX3_readDeed.cls cX3_readDeed 1 ((kX3_readDeed.drop 120).take 60) 120 = true := by decide +kernel
set_option maxRecDepth 100000 in
theorem ok_X3_readDeed : hc_all mX3_readDeed := by
  intro n e h
  have hl : n < 130 := hc_gt_lt kX3_readDeed n e h
  rcases Nat.lt_or_ge n 60 with q0 | q0
  · exact hc_okl_part kX3_readDeed 0 60 ok_X3_readDeed_0 n (by omega) (by omega) e h
  rcases Nat.lt_or_ge n 120 with q1 | q1
  · exact hc_okl_part kX3_readDeed 60 60 ok_X3_readDeed_60 n (by omega) (by omega) e h
  exact hc_okl_part kX3_readDeed 120 60 ok_X3_readDeed_120 n (by omega) (by omega) e h
set_option maxRecDepth 100000 in
theorem ok_X3_takeNumber_0 : hc_okl yX3_takeNumber.cls cX3_takeNumber 1 ((kX3_takeNumber.drop 0).take 60) 0 = true := by decide +kernel
set_option maxRecDepth 100000 in
theorem ok_X3_takeNumber_60 : hc_okl yX3_takeNumber.cls cX3_takeNumber 1 ((kX3_takeNumber.drop 60).take 60) 60 = true := by decide +kernel
set_option maxRecDepth 100000 in
theorem ok_X3_takeNumber : hc_all mX3_takeNumber := by
  intro n e h
  have hl : n < 62 := hc_gt_lt kX3_takeNumber n e h
  rcases Nat.lt_or_ge n 60 with q0 | q0
  · exact hc_okl_part kX3_takeNumber 0 60 ok_X3_takeNumber_0 n (by omega) (by omega) e h
  exact hc_okl_part kX3_takeNumber 60 60 ok_X3_takeNumber_60 n (by omega) (by omega) e h
set_option maxRecDepth 100000 in
theorem ok_X3_put_0 : hc_okl yX3_put.cls cX3_put 1 ((kX3_put.drop 0).take 60) 0 = true := by decide +kernel
set_option maxRecDepth 100000 in
theorem ok_X3_put : hc_all mX3_put := by
  intro n e h
  have hl : n < 51 := hc_gt_lt kX3_put n e h
  exact hc_okl_part kX3_put 0 60 ok_X3_put_0 n (by omega) (by omega) e h
set_option maxRecDepth 100000 in
theorem ok_X3_say_0 : hc_okl yX3_say.cls cX3_say 1 ((kX3_say.drop 0).take 60) 0 = true := by decide +kernel
set_option maxRecDepth 100000 in
theorem ok_X3_say : hc_all mX3_say := by
  intro n e h
  have hl : n < 44 := hc_gt_lt kX3_say n e h
  exact hc_okl_part kX3_say 0 60 ok_X3_say_0 n (by omega) (by omega) e h
set_option maxRecDepth 100000 in
theorem ok_X3_leadHere_0 : hc_okl yX3_leadHere.cls cX3_leadHere 1 ((kX3_leadHere.drop 0).take 60) 0 = true := by decide +kernel
set_option maxRecDepth 100000 in
theorem ok_X3_leadHere : hc_all mX3_leadHere := by
  intro n e h
  have hl : n < 36 := hc_gt_lt kX3_leadHere n e h
  exact hc_okl_part kX3_leadHere 0 60 ok_X3_leadHere_0 n (by omega) (by omega) e h
set_option maxRecDepth 100000 in
theorem ok_X3_readSum_0 : hc_okl yX3_readSum.cls cX3_readSum 1 ((kX3_readSum.drop 0).take 60) 0 = true := by decide +kernel
set_option maxRecDepth 100000 in
theorem ok_X3_readSum : hc_all mX3_readSum := by
  intro n e h
  have hl : n < 55 := hc_gt_lt kX3_readSum n e h
  exact hc_okl_part kX3_readSum 0 60 ok_X3_readSum_0 n (by omega) (by omega) e h
set_option maxRecDepth 100000 in
theorem ok_X3_readProduct_0 : hc_okl yX3_readProduct.cls cX3_readProduct 1 ((kX3_readProduct.drop 0).take 60) 0 = true := by decide +kernel
set_option maxRecDepth 100000 in
theorem ok_X3_readProduct : hc_all mX3_readProduct := by
  intro n e h
  have hl : n < 55 := hc_gt_lt kX3_readProduct n e h
  exact hc_okl_part kX3_readProduct 0 60 ok_X3_readProduct_0 n (by omega) (by omega) e h
set_option maxRecDepth 100000 in
theorem ok_X3_readOne_0 : hc_okl yX3_readOne.cls cX3_readOne 1 ((kX3_readOne.drop 0).take 60) 0 = true := by decide +kernel
set_option maxRecDepth 100000 in
theorem ok_X3_readOne_60 : hc_okl yX3_readOne.cls cX3_readOne 1 ((kX3_readOne.drop 60).take 60) 60 = true := by decide +kernel
set_option maxRecDepth 100000 in
theorem ok_X3_readOne_120 : hc_okl yX3_readOne.cls cX3_readOne 1 ((kX3_readOne.drop 120).take 60) 120 = true := by decide +kernel
set_option maxRecDepth 100000 in
theorem ok_X3_readOne : hc_all mX3_readOne := by
  intro n e h
  have hl : n < 135 := hc_gt_lt kX3_readOne n e h
  rcases Nat.lt_or_ge n 60 with q0 | q0
  · exact hc_okl_part kX3_readOne 0 60 ok_X3_readOne_0 n (by omega) (by omega) e h
  rcases Nat.lt_or_ge n 120 with q1 | q1
  · exact hc_okl_part kX3_readOne 60 60 ok_X3_readOne_60 n (by omega) (by omega) e h
  exact hc_okl_part kX3_readOne 120 60 ok_X3_readOne_120 n (by omega) (by omega) e h
set_option maxRecDepth 100000 in
theorem ok_X3_opens_0 : hc_okl yX3_opens.cls cX3_opens 1 ((kX3_opens.drop 0).take 60) 0 = true := by decide +kernel
set_option maxRecDepth 100000 in
theorem ok_X3_opens : hc_all mX3_opens := by
  intro n e h
  have hl : n < 19 := hc_gt_lt kX3_opens n e h
  exact hc_okl_part kX3_opens 0 60 ok_X3_opens_0 n (by omega) (by omega) e h
set_option maxRecDepth 100000 in
theorem ok_X3_readName_0 : hc_okl yX3_readName.cls cX3_readName 1 ((kX3_readName.drop 0).take 60) 0 = true := by decide +kernel
set_option maxRecDepth 100000 in
theorem ok_X3_readName_60 : hc_okl yX3_readName.cls cX3_readName 1 ((kX3_readName.drop 60).take 60) 60 = true := by decide +kernel
set_option maxRecDepth 100000 in
theorem ok_X3_readName : hc_all mX3_readName := by
  intro n e h
  have hl : n < 89 := hc_gt_lt kX3_readName n e h
  rcases Nat.lt_or_ge n 60 with q0 | q0
  · exact hc_okl_part kX3_readName 0 60 ok_X3_readName_0 n (by omega) (by omega) e h
  exact hc_okl_part kX3_readName 60 60 ok_X3_readName_60 n (by omega) (by omega) e h
set_option maxRecDepth 100000 in
theorem ok_X3_readChoice_0 : hc_okl yX3_readChoice.cls cX3_readChoice 1 ((kX3_readChoice.drop 0).take 60) 0 = true := by decide +kernel
set_option maxRecDepth 100000 in
theorem ok_X3_readChoice_60 : hc_okl yX3_readChoice.cls cX3_readChoice 1 ((kX3_readChoice.drop 60).take 60) 60 = true := by decide +kernel
set_option maxRecDepth 100000 in
theorem ok_X3_readChoice : hc_all mX3_readChoice := by
  intro n e h
  have hl : n < 72 := hc_gt_lt kX3_readChoice n e h
  rcases Nat.lt_or_ge n 60 with q0 | q0
  · exact hc_okl_part kX3_readChoice 0 60 ok_X3_readChoice_0 n (by omega) (by omega) e h
  exact hc_okl_part kX3_readChoice 60 60 ok_X3_readChoice_60 n (by omega) (by omega) e h
set_option maxRecDepth 100000 in
theorem ok_X3_readEither_0 : hc_okl yX3_readEither.cls cX3_readEither 1 ((kX3_readEither.drop 0).take 60) 0 = true := by decide +kernel
set_option maxRecDepth 100000 in
theorem ok_X3_readEither : hc_all mX3_readEither := by
  intro n e h
  have hl : n < 46 := hc_gt_lt kX3_readEither n e h
  exact hc_okl_part kX3_readEither 0 60 ok_X3_readEither_0 n (by omega) (by omega) e h
set_option maxRecDepth 100000 in
theorem ok_X3_readBoth_0 : hc_okl yX3_readBoth.cls cX3_readBoth 1 ((kX3_readBoth.drop 0).take 60) 0 = true := by decide +kernel
set_option maxRecDepth 100000 in
theorem ok_X3_readBoth : hc_all mX3_readBoth := by
  intro n e h
  have hl : n < 46 := hc_gt_lt kX3_readBoth n e h
  exact hc_okl_part kX3_readBoth 0 60 ok_X3_readBoth_0 n (by omega) (by omega) e h
set_option maxRecDepth 100000 in
theorem ok_X3_readAsk_0 : hc_okl yX3_readAsk.cls cX3_readAsk 1 ((kX3_readAsk.drop 0).take 60) 0 = true := by decide +kernel
set_option maxRecDepth 100000 in
theorem ok_X3_readAsk_60 : hc_okl yX3_readAsk.cls cX3_readAsk 1 ((kX3_readAsk.drop 60).take 60) 60 = true := by decide +kernel
set_option maxRecDepth 100000 in
theorem ok_X3_readAsk : hc_all mX3_readAsk := by
  intro n e h
  have hl : n < 80 := hc_gt_lt kX3_readAsk n e h
  rcases Nat.lt_or_ge n 60 with q0 | q0
  · exact hc_okl_part kX3_readAsk 0 60 ok_X3_readAsk_0 n (by omega) (by omega) e h
  exact hc_okl_part kX3_readAsk 60 60 ok_X3_readAsk_60 n (by omega) (by omega) e h
set_option maxRecDepth 100000 in
theorem ok_X4_init_0 : hc_okl yX4_init.cls cX4_init 2 ((kX4_init.drop 0).take 60) 0 = true := by decide +kernel
set_option maxRecDepth 100000 in
theorem ok_X4_init : hc_all mX4_init := by
  intro n e h
  have hl : n < 24 := hc_gt_lt kX4_init n e h
  exact hc_okl_part kX4_init 0 60 ok_X4_init_0 n (by omega) (by omega) e h
set_option maxRecDepth 100000 in
theorem ok_X4_becomeLike_0 : hc_okl yX4_becomeLike.cls cX4_becomeLike 1 ((kX4_becomeLike.drop 0).take 60) 0 = true := by decide +kernel
set_option maxRecDepth 100000 in
theorem ok_X4_becomeLike : hc_all mX4_becomeLike := by
  intro n e h
  have hl : n < 33 := hc_gt_lt kX4_becomeLike n e h
  exact hc_okl_part kX4_becomeLike 0 60 ok_X4_becomeLike_0 n (by omega) (by omega) e h
set_option maxRecDepth 100000 in
theorem ok_X4_keep_0 : hc_okl yX4_keep.cls cX4_keep 1 ((kX4_keep.drop 0).take 60) 0 = true := by decide +kernel
set_option maxRecDepth 100000 in
theorem ok_X4_keep_60 : hc_okl yX4_keep.cls cX4_keep 1 ((kX4_keep.drop 60).take 60) 60 = true := by decide +kernel
set_option maxRecDepth 100000 in
theorem ok_X4_keep_120 : hc_okl yX4_keep.cls cX4_keep 1 ((kX4_keep.drop 120).take 60) 120 = true := by decide +kernel
set_option maxRecDepth 100000 in
theorem ok_X4_keep : hc_all mX4_keep := by
  intro n e h
  have hl : n < 127 := hc_gt_lt kX4_keep n e h
  rcases Nat.lt_or_ge n 60 with q0 | q0
  · exact hc_okl_part kX4_keep 0 60 ok_X4_keep_0 n (by omega) (by omega) e h
  rcases Nat.lt_or_ge n 120 with q1 | q1
  · exact hc_okl_part kX4_keep 60 60 ok_X4_keep_60 n (by omega) (by omega) e h
  exact hc_okl_part kX4_keep 120 60 ok_X4_keep_120 n (by omega) (by omega) e h
set_option maxRecDepth 100000 in
theorem ok_X4_takeBack_0 : hc_okl yX4_takeBack.cls cX4_takeBack 1 ((kX4_takeBack.drop 0).take 60) 0 = true := by decide +kernel
set_option maxRecDepth 100000 in
theorem ok_X4_takeBack_60 : hc_okl yX4_takeBack.cls cX4_takeBack 1 ((kX4_takeBack.drop 60).take 60) 60 = true := by decide +kernel
set_option maxRecDepth 100000 in
theorem ok_X4_takeBack : hc_all mX4_takeBack := by
  intro n e h
  have hl : n < 114 := hc_gt_lt kX4_takeBack n e h
  rcases Nat.lt_or_ge n 60 with q0 | q0
  · exact hc_okl_part kX4_takeBack 0 60 ok_X4_takeBack_0 n (by omega) (by omega) e h
  exact hc_okl_part kX4_takeBack 60 60 ok_X4_takeBack_60 n (by omega) (by omega) e h
set_option maxRecDepth 100000 in
theorem ok_X5_init_0 : hc_okl yX5_init.cls cX5_init 2 ((kX5_init.drop 0).take 60) 0 = true := by decide +kernel
set_option maxRecDepth 100000 in
theorem ok_X5_init : hc_all mX5_init := by
  intro n e h
  have hl : n < 26 := hc_gt_lt kX5_init n e h
  exact hc_okl_part kX5_init 0 60 ok_X5_init_0 n (by omega) (by omega) e h
set_option maxRecDepth 100000 in
theorem ok_X5_number_0 : hc_okl yX5_number.cls cX5_number 1 ((kX5_number.drop 0).take 60) 0 = true := by decide +kernel
set_option maxRecDepth 100000 in
theorem ok_X5_number : hc_all mX5_number := by
  intro n e h
  have hl : n < 30 := hc_gt_lt kX5_number n e h
  exact hc_okl_part kX5_number 0 60 ok_X5_number_0 n (by omega) (by omega) e h
set_option maxRecDepth 100000 in
theorem ok_X6_init_0 : hc_okl yX6_init.cls cX6_init 2 ((kX6_init.drop 0).take 60) 0 = true := by decide +kernel
set_option maxRecDepth 100000 in
theorem ok_X6_init : hc_all mX6_init := by
  intro n e h
  have hl : n < 52 := hc_gt_lt kX6_init n e h
  exact hc_okl_part kX6_init 0 60 ok_X6_init_0 n (by omega) (by omega) e h
set_option maxRecDepth 100000 in
theorem ok_X6_scan_0 : hc_okl yX6_scan.cls cX6_scan 1 ((kX6_scan.drop 0).take 60) 0 = true := by decide +kernel
set_option maxRecDepth 100000 in
theorem ok_X6_scan_60 : hc_okl yX6_scan.cls cX6_scan 1 ((kX6_scan.drop 60).take 60) 60 = true := by decide +kernel
set_option maxRecDepth 100000 in
theorem ok_X6_scan : hc_all mX6_scan := by
  intro n e h
  have hl : n < 71 := hc_gt_lt kX6_scan n e h
  rcases Nat.lt_or_ge n 60 with q0 | q0
  · exact hc_okl_part kX6_scan 0 60 ok_X6_scan_0 n (by omega) (by omega) e h
  exact hc_okl_part kX6_scan 60 60 ok_X6_scan_60 n (by omega) (by omega) e h
set_option maxRecDepth 100000 in
theorem ok_X6_kindAt_0 : hc_okl yX6_kindAt.cls cX6_kindAt 1 ((kX6_kindAt.drop 0).take 60) 0 = true := by decide +kernel
set_option maxRecDepth 100000 in
theorem ok_X6_kindAt : hc_all mX6_kindAt := by
  intro n e h
  have hl : n < 30 := hc_gt_lt kX6_kindAt n e h
  exact hc_okl_part kX6_kindAt 0 60 ok_X6_kindAt_0 n (by omega) (by omega) e h
set_option maxRecDepth 100000 in
theorem ok_X6_placeAt_0 : hc_okl yX6_placeAt.cls cX6_placeAt 1 ((kX6_placeAt.drop 0).take 60) 0 = true := by decide +kernel
set_option maxRecDepth 100000 in
theorem ok_X6_placeAt : hc_all mX6_placeAt := by
  intro n e h
  have hl : n < 33 := hc_gt_lt kX6_placeAt n e h
  exact hc_okl_part kX6_placeAt 0 60 ok_X6_placeAt_0 n (by omega) (by omega) e h
set_option maxRecDepth 100000 in
theorem ok_X6_numberAt_0 : hc_okl yX6_numberAt.cls cX6_numberAt 1 ((kX6_numberAt.drop 0).take 60) 0 = true := by decide +kernel
set_option maxRecDepth 100000 in
theorem ok_X6_numberAt : hc_all mX6_numberAt := by
  intro n e h
  have hl : n < 30 := hc_gt_lt kX6_numberAt n e h
  exact hc_okl_part kX6_numberAt 0 60 ok_X6_numberAt_0 n (by omega) (by omega) e h
set_option maxRecDepth 100000 in
theorem ok_X6_scanOne_0 : hc_okl yX6_scanOne.cls cX6_scanOne 1 ((kX6_scanOne.drop 0).take 60) 0 = true := by decide +kernel
set_option maxRecDepth 100000 in
theorem ok_X6_scanOne_60 : hc_okl yX6_scanOne.cls cX6_scanOne 1 ((kX6_scanOne.drop 60).take 60) 60 = true := by decide +kernel
set_option maxRecDepth 100000 in
theorem ok_X6_scanOne_120 : hc_okl yX6_scanOne.cls cX6_scanOne 1 ((kX6_scanOne.drop 120).take 60) 120 = true := by decide +kernel
set_option maxRecDepth 100000 in
theorem ok_X6_scanOne : hc_all mX6_scanOne := by
  intro n e h
  have hl : n < 151 := hc_gt_lt kX6_scanOne n e h
  rcases Nat.lt_or_ge n 60 with q0 | q0
  · exact hc_okl_part kX6_scanOne 0 60 ok_X6_scanOne_0 n (by omega) (by omega) e h
  rcases Nat.lt_or_ge n 120 with q1 | q1
  · exact hc_okl_part kX6_scanOne 60 60 ok_X6_scanOne_60 n (by omega) (by omega) e h
  exact hc_okl_part kX6_scanOne 120 60 ok_X6_scanOne_120 n (by omega) (by omega) e h
set_option maxRecDepth 100000 in
theorem ok_X6_byteAt_0 : hc_okl yX6_byteAt.cls cX6_byteAt 1 ((kX6_byteAt.drop 0).take 60) 0 = true := by decide +kernel
set_option maxRecDepth 100000 in
theorem ok_X6_byteAt : hc_all mX6_byteAt := by
  intro n e h
  have hl : n < 39 := hc_gt_lt kX6_byteAt n e h
  exact hc_okl_part kX6_byteAt 0 60 ok_X6_byteAt_0 n (by omega) (by omega) e h
set_option maxRecDepth 100000 in
theorem ok_X6_isBlank_0 : hc_okl yX6_isBlank.cls cX6_isBlank 0 ((kX6_isBlank.drop 0).take 60) 0 = true := by decide +kernel
set_option maxRecDepth 100000 in
theorem ok_X6_isBlank : hc_all mX6_isBlank := by
  intro n e h
  have hl : n < 18 := hc_gt_lt kX6_isBlank n e h
  exact hc_okl_part kX6_isBlank 0 60 ok_X6_isBlank_0 n (by omega) (by omega) e h
set_option maxRecDepth 100000 in
theorem ok_X6_isLetter_0 : hc_okl yX6_isLetter.cls cX6_isLetter 0 ((kX6_isLetter.drop 0).take 60) 0 = true := by decide +kernel
set_option maxRecDepth 100000 in
theorem ok_X6_isLetter : hc_all mX6_isLetter := by
  intro n e h
  have hl : n < 30 := hc_gt_lt kX6_isLetter n e h
  exact hc_okl_part kX6_isLetter 0 60 ok_X6_isLetter_0 n (by omega) (by omega) e h
set_option maxRecDepth 100000 in
theorem ok_X6_isDigit_0 : hc_okl yX6_isDigit.cls cX6_isDigit 0 ((kX6_isDigit.drop 0).take 60) 0 = true := by decide +kernel
set_option maxRecDepth 100000 in
theorem ok_X6_isDigit : hc_all mX6_isDigit := by
  intro n e h
  have hl : n < 18 := hc_gt_lt kX6_isDigit n e h
  exact hc_okl_part kX6_isDigit 0 60 ok_X6_isDigit_0 n (by omega) (by omega) e h
set_option maxRecDepth 100000 in
theorem ok_X6_takeWord_0 : hc_okl yX6_takeWord.cls cX6_takeWord 1 ((kX6_takeWord.drop 0).take 60) 0 = true := by decide +kernel
set_option maxRecDepth 100000 in
theorem ok_X6_takeWord_60 : hc_okl yX6_takeWord.cls cX6_takeWord 1 ((kX6_takeWord.drop 60).take 60) 60 = true := by decide +kernel
set_option maxRecDepth 100000 in
theorem ok_X6_takeWord : hc_all mX6_takeWord := by
  intro n e h
  have hl : n < 75 := hc_gt_lt kX6_takeWord n e h
  rcases Nat.lt_or_ge n 60 with q0 | q0
  · exact hc_okl_part kX6_takeWord 0 60 ok_X6_takeWord_0 n (by omega) (by omega) e h
  exact hc_okl_part kX6_takeWord 60 60 ok_X6_takeWord_60 n (by omega) (by omega) e h
set_option maxRecDepth 100000 in
theorem ok_X6_stands_0 : hc_okl yX6_stands.cls cX6_stands 1 ((kX6_stands.drop 0).take 60) 0 = true := by decide +kernel
set_option maxRecDepth 100000 in
theorem ok_X6_stands : hc_all mX6_stands := by
  intro n e h
  have hl : n < 50 := hc_gt_lt kX6_stands n e h
  exact hc_okl_part kX6_stands 0 60 ok_X6_stands_0 n (by omega) (by omega) e h
set_option maxRecDepth 100000 in
theorem ok_X6_spelling_0 : hc_okl yX6_spelling.cls cX6_spelling 0 ((kX6_spelling.drop 0).take 60) 0 = true := by decide +kernel
set_option maxRecDepth 100000 in
theorem ok_X6_spelling_60 : hc_okl yX6_spelling.cls cX6_spelling 0 ((kX6_spelling.drop 60).take 60) 60 = true := by decide +kernel
set_option maxRecDepth 100000 in
theorem ok_X6_spelling : hc_all mX6_spelling := by
  intro n e h
  have hl : n < 112 := hc_gt_lt kX6_spelling n e h
  rcases Nat.lt_or_ge n 60 with q0 | q0
  · exact hc_okl_part kX6_spelling 0 60 ok_X6_spelling_0 n (by omega) (by omega) e h
  exact hc_okl_part kX6_spelling 60 60 ok_X6_spelling_60 n (by omega) (by omega) e h
set_option maxRecDepth 100000 in
theorem ok_X6_nameSpelling_0 : hc_okl yX6_nameSpelling.cls cX6_nameSpelling 0 ((kX6_nameSpelling.drop 0).take 60) 0 = true := by decide +kernel
set_option maxRecDepth 100000 in
theorem ok_X6_nameSpelling_60 : hc_okl yX6_nameSpelling.cls cX6_nameSpelling 0 ((kX6_nameSpelling.drop 60).take 60) 60 = true := by decide +kernel
set_option maxRecDepth 100000 in
theorem ok_X6_nameSpelling : hc_all mX6_nameSpelling := by
  intro n e h
  have hl : n < 68 := hc_gt_lt kX6_nameSpelling n e h
  rcases Nat.lt_or_ge n 60 with q0 | q0
  · exact hc_okl_part kX6_nameSpelling 0 60 ok_X6_nameSpelling_0 n (by omega) (by omega) e h
  exact hc_okl_part kX6_nameSpelling 60 60 ok_X6_nameSpelling_60 n (by omega) (by omega) e h
set_option maxRecDepth 100000 in
theorem ok_X6_takeNumber_0 : hc_okl yX6_takeNumber.cls cX6_takeNumber 1 ((kX6_takeNumber.drop 0).take 60) 0 = true := by decide +kernel
set_option maxRecDepth 100000 in
theorem ok_X6_takeNumber_60 : hc_okl yX6_takeNumber.cls cX6_takeNumber 1 ((kX6_takeNumber.drop 60).take 60) 60 = true := by decide +kernel
set_option maxRecDepth 100000 in
theorem ok_X6_takeNumber : hc_all mX6_takeNumber := by
  intro n e h
  have hl : n < 66 := hc_gt_lt kX6_takeNumber n e h
  rcases Nat.lt_or_ge n 60 with q0 | q0
  · exact hc_okl_part kX6_takeNumber 0 60 ok_X6_takeNumber_0 n (by omega) (by omega) e h
  exact hc_okl_part kX6_takeNumber 60 60 ok_X6_takeNumber_60 n (by omega) (by omega) e h
set_option maxRecDepth 100000 in
theorem ok_X6_takeSign_0 : hc_okl yX6_takeSign.cls cX6_takeSign 1 ((kX6_takeSign.drop 0).take 60) 0 = true := by decide +kernel
set_option maxRecDepth 100000 in
theorem ok_X6_takeSign : hc_all mX6_takeSign := by
  intro n e h
  have hl : n < 53 := hc_gt_lt kX6_takeSign n e h
  exact hc_okl_part kX6_takeSign 0 60 ok_X6_takeSign_0 n (by omega) (by omega) e h
set_option maxRecDepth 100000 in
theorem ok_X6_signKind_0 : hc_okl yX6_signKind.cls cX6_signKind 0 ((kX6_signKind.drop 0).take 60) 0 = true := by decide +kernel
set_option maxRecDepth 100000 in
theorem ok_X6_signKind_60 : hc_okl yX6_signKind.cls cX6_signKind 0 ((kX6_signKind.drop 60).take 60) 60 = true := by decide +kernel
set_option maxRecDepth 100000 in
theorem ok_X6_signKind_120 : hc_okl yX6_signKind.cls cX6_signKind 0 ((kX6_signKind.drop 120).take 60) 120 = true := by decide +kernel
set_option maxRecDepth 100000 in
theorem ok_X6_signKind_180 : hc_okl yX6_signKind.cls cX6_signKind 0 ((kX6_signKind.drop 180).take 60) 180 = true := by decide +kernel
set_option maxRecDepth 100000 in
theorem ok_X6_signKind : hc_all mX6_signKind := by
  intro n e h
  have hl : n < 191 := hc_gt_lt kX6_signKind n e h
  rcases Nat.lt_or_ge n 60 with q0 | q0
  · exact hc_okl_part kX6_signKind 0 60 ok_X6_signKind_0 n (by omega) (by omega) e h
  rcases Nat.lt_or_ge n 120 with q1 | q1
  · exact hc_okl_part kX6_signKind 60 60 ok_X6_signKind_60 n (by omega) (by omega) e h
  rcases Nat.lt_or_ge n 180 with q2 | q2
  · exact hc_okl_part kX6_signKind 120 60 ok_X6_signKind_120 n (by omega) (by omega) e h
  exact hc_okl_part kX6_signKind 180 60 ok_X6_signKind_180 n (by omega) (by omega) e h
set_option maxRecDepth 100000 in
theorem ok_X7_init_0 : hc_okl yX7_init.cls cX7_init 2 ((kX7_init.drop 0).take 60) 0 = true := by decide +kernel
set_option maxRecDepth 100000 in
theorem ok_X7_init_60 : hc_okl yX7_init.cls cX7_init 2 ((kX7_init.drop 60).take 60) 60 = true := by decide +kernel
set_option maxRecDepth 100000 in
theorem ok_X7_init : hc_all mX7_init := by
  intro n e h
  have hl : n < 111 := hc_gt_lt kX7_init n e h
  rcases Nat.lt_or_ge n 60 with q0 | q0
  · exact hc_okl_part kX7_init 0 60 ok_X7_init_0 n (by omega) (by omega) e h
  exact hc_okl_part kX7_init 60 60 ok_X7_init_60 n (by omega) (by omega) e h
set_option maxRecDepth 100000 in
theorem ok_X7_becomeLike_0 : hc_okl yX7_becomeLike.cls cX7_becomeLike 1 ((kX7_becomeLike.drop 0).take 60) 0 = true := by decide +kernel
set_option maxRecDepth 100000 in
theorem ok_X7_becomeLike_60 : hc_okl yX7_becomeLike.cls cX7_becomeLike 1 ((kX7_becomeLike.drop 60).take 60) 60 = true := by decide +kernel
set_option maxRecDepth 100000 in
theorem ok_X7_becomeLike_120 : hc_okl yX7_becomeLike.cls cX7_becomeLike 1 ((kX7_becomeLike.drop 120).take 60) 120 = true := by decide +kernel
set_option maxRecDepth 100000 in
theorem ok_X7_becomeLike : hc_all mX7_becomeLike := by
  intro n e h
  have hl : n < 157 := hc_gt_lt kX7_becomeLike n e h
  rcases Nat.lt_or_ge n 60 with q0 | q0
  · exact hc_okl_part kX7_becomeLike 0 60 ok_X7_becomeLike_0 n (by omega) (by omega) e h
  rcases Nat.lt_or_ge n 120 with q1 | q1
  · exact hc_okl_part kX7_becomeLike 60 60 ok_X7_becomeLike_60 n (by omega) (by omega) e h
  exact hc_okl_part kX7_becomeLike 120 60 ok_X7_becomeLike_120 n (by omega) (by omega) e h
set_option maxRecDepth 100000 in
theorem ok_X7_isFolk_0 : hc_okl yX7_isFolk.cls cX7_isFolk 1 ((kX7_isFolk.drop 0).take 60) 0 = true := by decide +kernel
set_option maxRecDepth 100000 in
theorem ok_X7_isFolk : hc_all mX7_isFolk := by
  intro n e h
  have hl : n < 24 := hc_gt_lt kX7_isFolk n e h
  exact hc_okl_part kX7_isFolk 0 60 ok_X7_isFolk_0 n (by omega) (by omega) e h
set_option maxRecDepth 100000 in
theorem ok_X7_isText_0 : hc_okl yX7_isText.cls cX7_isText 1 ((kX7_isText.drop 0).take 60) 0 = true := by decide +kernel
set_option maxRecDepth 100000 in
theorem ok_X7_isText : hc_all mX7_isText := by
  intro n e h
  have hl : n < 23 := hc_gt_lt kX7_isText n e h
  exact hc_okl_part kX7_isText 0 60 ok_X7_isText_0 n (by omega) (by omega) e h
set_option maxRecDepth 100000 in
theorem ok_X7_textAt_0 : hc_okl yX7_textAt.cls cX7_textAt 1 ((kX7_textAt.drop 0).take 60) 0 = true := by decide +kernel
set_option maxRecDepth 100000 in
theorem ok_X7_textAt : hc_all mX7_textAt := by
  intro n e h
  have hl : n < 19 := hc_gt_lt kX7_textAt n e h
  exact hc_okl_part kX7_textAt 0 60 ok_X7_textAt_0 n (by omega) (by omega) e h
set_option maxRecDepth 100000 in
theorem ok_X7_addText_0 : hc_okl yX7_addText.cls cX7_addText 1 ((kX7_addText.drop 0).take 60) 0 = true := by decide +kernel
set_option maxRecDepth 100000 in
theorem ok_X7_addText : hc_all mX7_addText := by
  intro n e h
  have hl : n < 44 := hc_gt_lt kX7_addText n e h
  exact hc_okl_part kX7_addText 0 60 ok_X7_addText_0 n (by omega) (by omega) e h
set_option maxRecDepth 100000 in
theorem ok_X7_welcome_0 : hc_okl yX7_welcome.cls cX7_welcome 1 ((kX7_welcome.drop 0).take 60) 0 = true := by decide +kernel
set_option maxRecDepth 100000 in
theorem ok_X7_welcome : hc_all mX7_welcome := by
  intro n e h
  have hl : n < 55 := hc_gt_lt kX7_welcome n e h
  exact hc_okl_part kX7_welcome 0 60 ok_X7_welcome_0 n (by omega) (by omega) e h
set_option maxRecDepth 100000 in
theorem ok_X7_marksOfFolk_0 : hc_okl yX7_marksOfFolk.cls cX7_marksOfFolk 1 ((kX7_marksOfFolk.drop 0).take 60) 0 = true := by decide +kernel
set_option maxRecDepth 100000 in
theorem ok_X7_marksOfFolk : hc_all mX7_marksOfFolk := by
  intro n e h
  have hl : n < 35 := hc_gt_lt kX7_marksOfFolk n e h
  exact hc_okl_part kX7_marksOfFolk 0 60 ok_X7_marksOfFolk_0 n (by omega) (by omega) e h
set_option maxRecDepth 100000 in
theorem ok_X7_box_0 : hc_okl yX7_box.cls cX7_box 1 ((kX7_box.drop 0).take 60) 0 = true := by decide +kernel
set_option maxRecDepth 100000 in
theorem ok_X7_box : hc_all mX7_box := by
  intro n e h
  have hl : n < 8 := hc_gt_lt kX7_box n e h
  exact hc_okl_part kX7_box 0 60 ok_X7_box_0 n (by omega) (by omega) e h
set_option maxRecDepth 100000 in
theorem ok_X7_give_0 : hc_okl yX7_give.cls cX7_give 1 ((kX7_give.drop 0).take 60) 0 = true := by decide +kernel
set_option maxRecDepth 100000 in
theorem ok_X7_give : hc_all mX7_give := by
  intro n e h
  have hl : n < 46 := hc_gt_lt kX7_give n e h
  exact hc_okl_part kX7_give 0 60 ok_X7_give_0 n (by omega) (by omega) e h
set_option maxRecDepth 100000 in
theorem ok_X7_handOver_0 : hc_okl yX7_handOver.cls cX7_handOver 1 ((kX7_handOver.drop 0).take 60) 0 = true := by decide +kernel
set_option maxRecDepth 100000 in
theorem ok_X7_handOver_60 : hc_okl yX7_handOver.cls cX7_handOver 1 ((kX7_handOver.drop 60).take 60) 60 = true := by decide +kernel
set_option maxRecDepth 100000 in
theorem ok_X7_handOver_120 : hc_okl yX7_handOver.cls cX7_handOver 1 ((kX7_handOver.drop 120).take 60) 120 = true := by decide +kernel
set_option maxRecDepth 100000 in
theorem ok_X7_handOver : hc_all mX7_handOver := by
  intro n e h
  have hl : n < 121 := hc_gt_lt kX7_handOver n e h
  rcases Nat.lt_or_ge n 60 with q0 | q0
  · exact hc_okl_part kX7_handOver 0 60 ok_X7_handOver_0 n (by omega) (by omega) e h
  rcases Nat.lt_or_ge n 120 with q1 | q1
  · exact hc_okl_part kX7_handOver 60 60 ok_X7_handOver_60 n (by omega) (by omega) e h
  exact hc_okl_part kX7_handOver 120 60 ok_X7_handOver_120 n (by omega) (by omega) e h
