/-! THE SMALL MACHINE. Its world is numbers alone: w a j is what cell a holds in place j. All references are fixed once the objects are made. -/
abbrev xMV : Type := Option (Int32 ⊕ (Int64 ⊕ (Nat × Nat)))
abbrev xI (v : Int32) : xMV := some (Sum.inl v)
abbrev xJ (v : Int64) : xMV := some (Sum.inr (Sum.inl v))
abbrev xA (c a : Nat) : xMV := some (Sum.inr (Sum.inr (c, a)))
abbrev xU : xMV := none
abbrev xWd : Type := Nat → Nat → Int32
abbrev xSt : Type := Nat × List xMV × List xMV × xWd
/-- what an instruction does: goes on; goes on under a condition; calls (which method, its arguments, the rest of the stack); returns under a condition -/
abbrev xEff : Type := xSt ⊕ ((Prop × xSt) ⊕ ((Nat × List xMV × List xMV) ⊕ (Prop × xMV)))
def x_put (w : xWd) (a : Nat) (f : Nat → Int32) : xWd := fun b => if b = a then f else w b
def x_set (w : xWd) (a j : Nat) (v : Int32) : xWd := x_put w a (upd (w a) j v)
def x_fv (c a y : Nat) (w : xWd) : xMV := match x_ft c y with
  | none => xI (w a y)
  | some t => xA t (x_gr c a y)
def x_pu (r : xMV) (st : List xMV) : List xMV := match r with
  | none => st
  | some v => some v :: st
def x_cat : xMV → Nat
  | some (.inr (.inl _)) => 2
  | _ => 1
def x_lay : List xMV → List xMV
  | [] => []
  | some (.inr (.inl v)) :: r => some (.inr (.inl v)) :: none :: x_lay r
  | v :: r => v :: x_lay r
def x_nth {α : Type} (d : α) : List α → Nat → α
  | [], _ => d
  | a :: _, 0 => a
  | _ :: r, n + 1 => x_nth d r n
def x_m0 : x_MT := (⟨"", "", ""⟩, code, 0, none, 99, 0)
def x_mt (n : Nat) : x_MT := x_nth x_m0 x_mts n
def x_nl (n : Nat) : Nat := (x_mt n).2.2.1
def x_mc (n : Nat) : Nat := (x_mt n).2.2.2.2.1
def x_pad : List xMV → Nat → List xMV
  | [], 0 => []
  | [], n + 1 => none :: x_pad [] n
  | a :: r, 0 => a :: r
  | a :: r, n + 1 => a :: x_pad r n
def x_ent (n : Nat) (as : List xMV) : List xMV := x_pad (x_lay as) (x_nl n)
def x_lk : List (Nat × xRow) → Nat → Option xRow
  | [], _ => none
  | (k, r) :: t, pc => bif Nat.beq k pc then some r else x_lk t pc
def x_tb (n pc : Nat) : Option xRow := x_lk (x_nth [] x_tls n) pc
def x_g (pc : Nat) (ls st : List xMV) (w : xWd) : Option xEff := some (.inl (pc, ls, st, w))
def x_o (P : Prop) (pc : Nat) (ls st : List xMV) (w : xWd) : Option xEff := some (.inr (.inl (P, pc, ls, st, w)))
/-- the place ahead holds no long -/
def x_nlg (ls : List xMV) : Nat → Bool
  | 0 => true
  | k + 1 => match ls[k]? with
    | some (some (.inr (.inl _))) => false
    | _ => true
def x_ld (ls : List xMV) (i : Nat) (f : xMV → Option xEff) : Option xEff := match ls[i]? with
  | some (some v) => f (some v)
  | _ => none
def x_ldI (ls : List xMV) (i : Nat) (f : xMV → Option xEff) : Option xEff := match ls[i]? with
  | some (some (.inl v)) => f (xI v)
  | _ => none
def x_ldJ (ls : List xMV) (i : Nat) (f : xMV → Option xEff) : Option xEff := match ls[i]? with
  | some (some (.inr (.inl v))) => f (xJ v)
  | _ => none
def x_ldA (ls : List xMV) (i : Nat) (f : xMV → Option xEff) : Option xEff := match ls[i]? with
  | some (some (.inr (.inr v))) => f (xA v.1 v.2)
  | _ => none
def x_p1 (st : List xMV) (f : Int32 → List xMV → Option xEff) : Option xEff := match st with
  | some (.inl b) :: r => f b r
  | _ => none
def x_p2 (st : List xMV) (f : Int32 → Int32 → List xMV → Option xEff) : Option xEff := match st with
  | some (.inl b) :: some (.inl a) :: r => f a b r
  | _ => none
def x_q2 (st : List xMV) (f : Int64 → Int64 → List xMV → Option xEff) : Option xEff := match st with
  | some (.inr (.inl b)) :: some (.inr (.inl a)) :: r => f a b r
  | _ => none
def x_pa (st : List xMV) (f : Nat → Nat → List xMV → Option xEff) : Option xEff := match st with
  | some (.inr (.inr q)) :: r => f q.1 q.2 r
  | _ => none
def x_swt (v : Int32) : List (Int × Int) → Nat → Nat
  | [], d => d
  | (k, t) :: r, d => if v = Int32.ofInt k then t.toNat else x_swt v r d
def x_tsl (pc : Int) : Int → List Int → List (Int × Int)
  | _, [] => []
  | lo, o :: r => (lo, pc + o) :: x_tsl pc (lo + 1) r
def x_psl (pc : Int) : List (Int × Int) → List (Int × Int)
  | [] => []
  | (k, o) :: r => (k, pc + o) :: x_psl pc r
def x_icmp (c : ClassFile.Cond) (a b : Int32) (t f : Nat) : Nat := match c with
  | .eq => if a = b then t else f
  | .ne => if a = b then f else t
  | .lt => if a < b then t else f
  | .ge => if b ≤ a then t else f
  | .gt => if b < a then t else f
  | .le => if a ≤ b then t else f
def x_catS (st : List xMV) : Nat := match st with
  | [] => 0
  | v :: r => x_cat v + x_catS r
def x_rev (st : List xMV) : Nat → List xMV → Option (List xMV × List xMV)
  | 0, acc => some (acc, st)
  | n + 1, acc => match st with
    | [] => none
    | v :: r => x_rev r n (v :: acc)
def x_cl (ν : Nat) (o : Option (List xMV × List xMV)) : Option xEff := match o with
  | none => none
  | some (as, rst) => bif Nat.ble (x_catS rst) 8 && Nat.ble (x_catS as) (x_nl ν) then some (.inr (.inr (.inl (ν, as, rst)))) else none
/-- an instance call: the receiver is of the method's class -/
def x_clv (ν : Nat) (o : Option (List xMV × List xMV)) : Option xEff := match o with
  | some (some (.inr (.inr q)) :: as, rst) => bif Nat.beq q.1 (x_mc ν) then x_cl ν (some (some (.inr (.inr q)) :: as, rst)) else none
  | _ => none
def x_ist (d : Nat) (x y pc : Nat) (ls st : List xMV) (w : xWd) : Option xEff :=
  bif Nat.beq x 9999 then (match st with
    | [some (.inl n), some (.inl dp), some (.inr (.inr q1)), some (.inl sp), some (.inr (.inr q0))] =>
      x_o (1 ≤ d ∧ 100 ≤ q0.1 ∧ 100 ≤ q1.1 ∧ ¬ sp < 0 ∧ ¬ dp < 0 ∧ ¬ n < 0 ∧ sp.toNatClampNeg + n.toNatClampNeg ≤ q0.1 - 100 ∧ dp.toNatClampNeg + n.toNatClampNeg ≤ q1.1 - 100) (pc + 3) ls [] (x_put w q1.2 (va_cpy (w q0.2) (w q1.2) sp.toNatClampNeg dp.toNatClampNeg n.toNatClampNeg))
    | _ => none)
  else bif Nat.beq x 9998 then x_p2 st fun a b r => bif Nat.ble (x_catS r) 8 then x_o (1 ≤ d) (pc + 3) ls (xI (if a < b then b else a) :: r) w else none
  else bif Nat.beq x 9997 then x_p2 st fun a b r => bif Nat.ble (x_catS r) 8 then x_o (1 ≤ d) (pc + 3) ls (xI (if b < a then b else a) :: r) w else none
  else x_cl x (x_rev st y [])
def x_iald (n pc : Nat) (ls st : List xMV) (w : xWd) : Option xEff := match st with
  | some (.inl i) :: some (.inr (.inr q)) :: r =>
    bif Nat.beq q.1 51 then x_o (n = 0 ∧ vp_in i (w 4 0).toNatClampNeg) (pc + 1) ls (xI (w q.2 i.toNatClampNeg) :: r) w
    else bif Nat.ble 100 q.1 then x_o (vp_in i (q.1 - 100)) (pc + 1) ls (xI (w q.2 i.toNatClampNeg) :: r) w else none
  | _ => none
def x_iast (pc : Nat) (ls st : List xMV) (w : xWd) : Option xEff := match st with
  | some (.inl v) :: some (.inl i) :: some (.inr (.inr q)) :: r =>
    bif Nat.ble 100 q.1 then x_o (vp_in i (q.1 - 100)) (pc + 1) ls r (x_set w q.2 i.toNatClampNeg v) else none
  | _ => none
def x_aald (pc : Nat) (ls st : List xMV) (w : xWd) : Option xEff := match st with
  | some (.inl i) :: some (.inr (.inr q)) :: r =>
    bif Nat.beq q.1 50 then x_o (vp_in i 4) (pc + 1) ls (xA 3 (x_gr 50 q.2 i.toNatClampNeg) :: r) w else none
  | _ => none
def x_alen (n pc : Nat) (ls st : List xMV) (w : xWd) : Option xEff := x_pa st fun c a r =>
  bif Nat.beq c 51 then x_o (n = 0) (pc + 1) ls (xI (w 4 0) :: r) w
  else bif Nat.ble 100 c then x_g (pc + 1) ls (xI (nI (c - 100)) :: r) w else none
def x_pf (x y pc : Nat) (ls st : List xMV) (w : xWd) : Option xEff := match st with
  | some (.inl v) :: some (.inr (.inr q)) :: r => bif Nat.beq q.1 x then (match x_ft x y with
    | none => bif x_fz x y then x_o (v = 0 ∨ v = 1) (pc + 3) ls r (x_set w q.2 y v) else x_g (pc + 3) ls r (x_set w q.2 y v)
    | some _ => none) else none
  | _ => none
def x_sto1 (i : Nat) (pc : Nat) (ls : List xMV) (v : xMV) (r : List xMV) (w : xWd) : Option xEff :=
  bif x_nlg ls i then x_g pc (ls.set i v) r w else none
def x_sto2 (i : Nat) (pc : Nat) (ls : List xMV) (v : xMV) (r : List xMV) (w : xWd) : Option xEff :=
  bif x_nlg ls i then x_g pc ((ls.set i v).set (i + 1) none) r w else none
def x_stI (i pc : Nat) (ls st : List xMV) (w : xWd) : Option xEff := match st with
  | some (.inl v) :: r => x_sto1 i pc ls (xI v) r w
  | _ => none
def x_stA (i pc : Nat) (ls st : List xMV) (w : xWd) : Option xEff := match st with
  | some (.inr (.inr v)) :: r => x_sto1 i pc ls (xA v.1 v.2) r w
  | _ => none
def x_stJ (i pc : Nat) (ls st : List xMV) (w : xWd) : Option xEff := match st with
  | some (.inr (.inl v)) :: r => x_sto2 i pc ls (xJ v) r w
  | _ => none
def x_iret (x : Nat) (st : List xMV) : Option xEff := match st with
  | [some (.inl v)] => (match x with
    | 0 => some (.inr (.inr (.inr (True, xI v))))
    | _ => some (.inr (.inr (.inr (v = 0 ∨ v = 1, xI v)))))
  | _ => none
def x_eff (r : xRow) (d n pc : Nat) (ls st : List xMV) (w : xWd) : Option xEff :=
  match r.1 with
  | .iconst k => x_g (pc + 1) ls (xI (Int32.ofInt k) :: st) w
  | .bipush k => x_g (pc + 2) ls (xI (Int32.ofInt k) :: st) w
  | .sipush k => x_g (pc + 3) ls (xI (Int32.ofInt k) :: st) w
  | .ldc_w _ => x_g (pc + 3) ls (xI (Int32.ofNat r.2.1) :: st) w
  | .lconst k => x_g (pc + 1) ls (xJ (Int64.ofNat k.val) :: st) w
  | .ldc2_w _ => x_g (pc + 3) ls (xJ (Int64.ofNat r.2.1) :: st) w
  | .iload_n k => x_ldI ls k.val fun v => x_g (pc + 1) ls (v :: st) w
  | .iload k => x_ldI ls k fun v => x_g (pc + 2) ls (v :: st) w
  | .aload_n k => x_ldA ls k.val fun v => x_g (pc + 1) ls (v :: st) w
  | .aload k => x_ldA ls k fun v => x_g (pc + 2) ls (v :: st) w
  | .lload_n k => x_ldJ ls k.val fun v => x_g (pc + 1) ls (v :: st) w
  | .lload k => x_ldJ ls k fun v => x_g (pc + 2) ls (v :: st) w
  | .istore_n k => x_stI k.val (pc + 1) ls st w
  | .istore k => x_stI k (pc + 2) ls st w
  | .astore_n k => x_stA k.val (pc + 1) ls st w
  | .astore k => x_stA k (pc + 2) ls st w
  | .lstore k => x_stJ k (pc + 2) ls st w
  | .iinc i k => match ls[i]? with
    | some (some (.inl v)) => x_sto1 i (pc + 3) ls (xI (v + Int32.ofInt k)) st w
    | _ => none
  | .iadd => x_p2 st fun a b q => x_g (pc + 1) ls (xI (a + b) :: q) w
  | .isub => x_p2 st fun a b q => x_g (pc + 1) ls (xI (a - b) :: q) w
  | .imul => x_p2 st fun a b q => x_g (pc + 1) ls (xI (a * b) :: q) w
  | .iand => x_p2 st fun a b q => x_g (pc + 1) ls (xI (a &&& b) :: q) w
  | .ior => x_p2 st fun a b q => x_g (pc + 1) ls (xI (a ||| b) :: q) w
  | .ixor => x_p2 st fun a b q => x_g (pc + 1) ls (xI (a ^^^ b) :: q) w
  | .ishl => x_p2 st fun a b q => x_g (pc + 1) ls (xI (a <<< (b &&& 31)) :: q) w
  | .ishr => x_p2 st fun a b q => x_g (pc + 1) ls (xI (a >>> (b &&& 31)) :: q) w
  | .iushr => x_p2 st fun a b q => x_g (pc + 1) ls (xI ((a.toUInt32 >>> (b.toUInt32 &&& Int32.toUInt32 31)).toInt32) :: q) w
  | .idiv => x_p2 st fun a b q => x_o (¬ b = 0) (pc + 1) ls (xI (a / b) :: q) w
  | .irem => x_p2 st fun a b q => x_o (¬ b = 0) (pc + 1) ls (xI (a - a / b * b) :: q) w
  | .i2b => x_p1 st fun a q => x_g (pc + 1) ls (xI a.toInt8.toInt32 :: q) w
  | .i2s => x_p1 st fun a q => x_g (pc + 1) ls (xI a.toInt16.toInt32 :: q) w
  | .i2l => x_p1 st fun a q => x_g (pc + 1) ls (xJ a.toInt64 :: q) w
  | .ldiv => x_q2 st fun a b q => x_o (¬ b = 0) (pc + 1) ls (xJ (a / b) :: q) w
  | .lrem => x_q2 st fun a b q => x_o (¬ b = 0) (pc + 1) ls (xJ (a - a / b * b) :: q) w
  | .lcmp => x_q2 st fun a b q => x_g (pc + 1) ls (xI (lg_cmp a b) :: q) w
  | .dup => match st with
    | some (.inl a) :: q => x_g (pc + 1) ls (xI a :: xI a :: q) w
    | some (.inr (.inr a)) :: q => x_g (pc + 1) ls (xA a.1 a.2 :: xA a.1 a.2 :: q) w
    | _ => none
  | .dup2 => match st with
    | some (.inl a) :: some (.inr (.inr b)) :: q => x_g (pc + 1) ls (xI a :: xA b.1 b.2 :: xI a :: xA b.1 b.2 :: q) w
    | _ => none
  | .pop => x_p1 st fun _ q => x_g (pc + 1) ls q w
  | .ifCond c _ => x_p1 st fun a q => x_g (x_icmp c a 0 r.2.1 (pc + 3)) ls q w
  | .if_icmp c _ => x_p2 st fun a b q => x_g (x_icmp c a b r.2.1 (pc + 3)) ls q w
  | .goto _ => x_g r.2.1 ls st w
  | .tableswitch dft lo _ offs => x_p1 st fun a q => x_g (x_swt a (x_tsl pc lo offs.toList) ((pc : Int) + dft).toNat) ls q w
  | .lookupswitch dft ps => x_p1 st fun a q => x_g (x_swt a (x_psl pc ps.toList) ((pc : Int) + dft).toNat) ls q w
  | .getfield _ => x_pa st fun c a q => bif Nat.beq c r.2.1 then x_g (pc + 3) ls (x_fv r.2.1 a r.2.2.1 w :: q) w else none
  | .putfield _ => x_pf r.2.1 r.2.2.1 pc ls st w
  | .iaload => x_iald n pc ls st w
  | .iastore => x_iast pc ls st w
  | .aaload => x_aald pc ls st w
  | .arraylength => x_alen n pc ls st w
  | .invokevirtual _ => x_clv r.2.1 (x_rev st r.2.2.1 [])
  | .invokestatic _ => x_ist d r.2.1 r.2.2.1 pc ls st w
  | .ireturn => x_iret r.2.1 st
  | .lreturn => (match st with
    | [some (.inr (.inl v))] => some (.inr (.inr (.inr (True, xJ v))))
    | _ => none)
  | .return_ => (match st with
    | [] => some (.inr (.inr (.inr (True, xU))))
    | _ => none)
  | _ => none
/-- the small machine comes to an end with Q (its answer, its world), in n steps, with d calls inside each other -/
def xwp : Nat → Nat → Nat → Nat → List xMV → List xMV → xWd → (xMV → xWd → Prop) → Prop
  | 0, _, _, _, _, _, _, _ => False
  | n + 1, d, k, pc, ls, st, w, Q => match x_tb k pc with
    | none => False
    | some r => match x_eff r d k pc ls st w with
      | none => False
      | some (.inl s) => xwp n d k s.1 s.2.1 s.2.2.1 s.2.2.2 Q
      | some (.inr (.inl (P, s))) => P ∧ xwp n d k s.1 s.2.1 s.2.2.1 s.2.2.2 Q
      | some (.inr (.inr (.inl (y, as, rst)))) => (match d with
        | 0 => False
        | d' + 1 => xwp n d' y 0 (x_ent y as) [] w (fun a w' => xwp n (d' + 1) k (pc + 3) ls (x_pu a rst) w' Q))
      | some (.inr (.inr (.inr (P, a)))) => P ∧ Q a w
