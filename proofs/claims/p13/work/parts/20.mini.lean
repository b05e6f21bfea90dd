/-! A small machine of its own: objects by numbers, one heap of ints, longs and references; it runs the tables of 03. -/
def xi_scr : Nat := 1000000
abbrev xHp : Type := (Bool × Nat × Nat × Nat × Nat × (Nat → Int32)) × (Nat → Nat × Nat) × (Nat → Nat → Int32) × (Nat → Nat → Int64) × (Nat → Nat → Option Nat)
abbrev hF (h : xHp) : Bool := h.1.1
abbrev hN (h : xHp) : Nat := h.1.2.1
abbrev hC (h : xHp) : Nat := h.1.2.2.1
abbrev hW (h : xHp) : Nat := h.1.2.2.2.1
/-- 0: nothing is known of the script; L + 1: it has L ints -/
abbrev hL (h : xHp) : Nat := h.1.2.2.2.2.1
abbrev hX (h : xHp) : Nat → Int32 := h.1.2.2.2.2.2
abbrev hK (h : xHp) : Nat → Nat × Nat := h.2.1
abbrev hI (h : xHp) : Nat → Nat → Int32 := h.2.2.1
abbrev hJ (h : xHp) : Nat → Nat → Int64 := h.2.2.2.1
abbrev hR (h : xHp) : Nat → Nat → Option Nat := h.2.2.2.2
def xi_u2 {α : Type} (f : Nat → Nat → α) (a k : Nat) (v : α) : Nat → Nat → α := fun b j => if b = a then (if j = k then v else f b j) else f b j
def xi_setI (h : xHp) (a k : Nat) (v : Int32) : xHp := (h.1, hK h, xi_u2 (hI h) a k v, hJ h, hR h)
def xi_setJ (h : xHp) (a k : Nat) (v : Int64) : xHp := (h.1, hK h, hI h, xi_u2 (hJ h) a k v, hR h)
def xi_setR (h : xHp) (a k : Nat) (v : Option Nat) : xHp := (h.1, hK h, hI h, hJ h, xi_u2 (hR h) a k v)
def xi_fz (h : xHp) : xHp := ((true, hN h, hC h + 1, hW h + 6, hL h, hX h), h.2)
def xi_nw (h : xHp) (kind len sl : Nat) : xHp := ((hF h, hN h + 1, hC h + 1, hW h + sl, hL h, hX h), va_up (hK h) (hN h) (kind, len), fun b j => if b = hN h then 0 else hI h b j, fun b j => if b = hN h then 0 else hJ h b j, fun b j => if b = hN h then none else hR h b j)
/-- an outer row of n places, and n rows of k ints behind it -/
def xi_mn (h : xHp) (n k : Nat) : xHp := ((hF h, hN h + (1 + n), hC h + (1 + n), hW h + (n + n * k), hL h, hX h), fun b => if b = hN h then (16, n) else if hN h < b ∧ b ≤ hN h + n then (8, k) else hK h b, fun b j => if hN h < b ∧ b ≤ hN h + n then 0 else hI h b j, hJ h, fun b j => if b = hN h then (if j < n then some (hN h + 1 + j) else none) else hR h b j)
def xi_a {α : Type} : List (Nat × α) → Nat → Option α
  | [], _ => none
  | (i, v) :: t, k => if i = k then some v else xi_a t k
def xi_nf (k : Nat) : Nat := [6, 12, 10, 6, 5, 3, 5, 30].getD k 0
def xi_tys : List (Nat → FieldType) := [tyX1, tyX2, tyX3, tyX4, tyX5, tyX6, tyX7, tyX8]
def xi_Ts : List u_T := [TX1, TX2, TX3, TX4, TX5, TX6, TX7, TX8]
def xi_ty (c k : Nat) : FieldType := xi_tys.getD c (fun _ => .int) k
def xi_rf (c k : Nat) : Bool := match xi_ty c k with | .object _ => true | .array _ => true | _ => false
def xi_bo (c k : Nat) : Bool := match xi_ty c k with | .boolean => true | _ => false
def xi_fn (c k : Nat) : Bool := (xi_Ts.getD c TX1 k).2.2.2
def xi_rv : Option Nat → Value
  | none => .null
  | some r => .ref r
def xi_fv (h : xHp) (a c k : Nat) : Value := if xi_rf c k = true then xi_rv (hR h a k) else .int (hI h a k)
/-- the class of what a row of references holds -/
def xi_ec (k : Nat) : Nat := [0, 1, 2, 3, 5].getD (k - 11) 99
/-- the kind of a row of references to a class -/
def xi_ak (c : Nat) : Nat := [11, 12, 13, 14, 0, 15].getD c 0
abbrev xFr : Type := Nat × List (Nat × Value) × List Value
def xi_p1 (lv : List (Nat × Value)) (i : Nat) (v : Value) : List (Nat × Value) := (i, v) :: lv.filter (fun q => !(q.1 == i) && !(q.1 + 1 == i && q.2.category == 2))
def xi_p2 (lv : List (Nat × Value)) (i : Nat) (v : Value) : List (Nat × Value) := (i, v) :: lv.filter (fun q => !(q.1 == i) && (!(q.1 == i + 1) && !(q.1 + 1 == i && q.2.category == 2)))
def xi_go (pc : Nat) (off : Int) (lv : List (Nat × Value)) (st : List Value) (h : xHp) : Option (xFr × xHp) := if 0 ≤ (pc : Int) + off then some ((((pc : Int) + off).toNat, lv, st), h) else none
def xi_ld (lv : List (Nat × Value)) (k pc : Nat) (st : List Value) (h : xHp) (ok : Value → Bool) : Option (xFr × xHp) := match xi_a lv k with
  | some v => if ok v = true then some ((pc, lv, v :: st), h) else none
  | none => none
def xi_vi : Value → Bool | .int _ => true | _ => false
def xi_vl : Value → Bool | .long _ => true | _ => false
def xi_vf : Value → Bool | .float _ => true | _ => false
def xi_vd : Value → Bool | .double _ => true | _ => false
def xi_va : Value → Bool | .ref _ => true | _ => false
def xi_s1s (nL k pc : Nat) (lv : List (Nat × Value)) (st : List Value) (h : xHp) (ok : Value → Bool) : Option (xFr × xHp) := match st with
  | v :: r => if ok v = true ∧ k < nL then some ((pc, xi_p1 lv k v, r), h) else none
  | [] => none
def xi_s2s (nL k pc : Nat) (lv : List (Nat × Value)) (st : List Value) (h : xHp) (ok : Value → Bool) : Option (xFr × xHp) := match st with
  | v :: r => if ok v = true ∧ k + 1 < nL then some ((pc, xi_p2 lv k v, r), h) else none
  | [] => none
def xi_ii (pc : Nat) (lv : List (Nat × Value)) (st : List Value) (h : xHp) (f : Int32 → Int32 → Int32) : Option (xFr × xHp) := match st with
  | .int y :: .int x :: r => some ((pc + 1, lv, .int (f x y) :: r), h)
  | _ => none
def xi_ifc (c : ClassFile.Cond) (off : Int) (pc : Nat) (lv : List (Nat × Value)) (x y : Int32) (r : List Value) (h : xHp) : Option (xFr × xHp) := match c with
  | .eq => if x = y then xi_go pc off lv r h else some ((pc + 3, lv, r), h)
  | .ne => if x = y then some ((pc + 3, lv, r), h) else xi_go pc off lv r h
  | .lt => if x < y then xi_go pc off lv r h else some ((pc + 3, lv, r), h)
  | .ge => if y ≤ x then xi_go pc off lv r h else some ((pc + 3, lv, r), h)
  | .gt => if y < x then xi_go pc off lv r h else some ((pc + 3, lv, r), h)
  | .le => if x ≤ y then xi_go pc off lv r h else some ((pc + 3, lv, r), h)
/-- is i a place of the row a, which is of kind k? -/
def xi_in (h : xHp) (a k : Nat) (i : Int32) : Bool := !decide (i < 0) && decide (a < hN h) && decide ((hK h a).1 = k) && decide (i.toNatClampNeg < (hK h a).2)
def xi_sp (lv : List (Nat × Value)) (k : Nat) : List (Nat × Value) := lv.filter (fun q => !(q.1 == k) && !(q.1 + 1 == k && q.2.category == 2))
/-- an instruction that neither calls nor returns -/
def xi_s1 (o nL : Nat) (ini : Bool) (i : Instr) (pc : Nat) (lv : List (Nat × Value)) (st : List Value) (h : xHp) : Option (xFr × xHp) :=
  match i with
  | .iconst n => some ((pc + 1, lv, .int (Int32.ofInt n) :: st), h)
  | .bipush n => some ((pc + 2, lv, .int (Int8.ofInt n).toInt32 :: st), h)
  | .sipush n => some ((pc + 3, lv, .int (Int16.ofInt n).toInt32 :: st), h)
  | .lconst n => some ((pc + 1, lv, .long (Int64.ofNat (n : Nat)) :: st), h)
  | .fconst n => if n = 0 then some ((pc + 1, lv, .float FP.fconst0 :: st), h) else none
  | .ldc ix => match xi_a (xcl.getD o []) ix with
    | some (v, _) => some ((pc + 2, lv, .int v :: st), h)
    | none => none
  | .ldc2_w ix => match xi_a (xc2.getD o []) ix with
    | some (v, _) => some ((pc + 3, lv, .long v :: st), h)
    | none => none
  | .iload_n k => xi_ld lv k (pc + 1) st h xi_vi
  | .iload k => xi_ld lv k (pc + 2) st h xi_vi
  | .lload_n k => xi_ld lv k (pc + 1) st h xi_vl
  | .lload k => xi_ld lv k (pc + 2) st h xi_vl
  | .fload_n k => xi_ld lv k (pc + 1) st h xi_vf
  | .dload k => xi_ld lv k (pc + 2) st h xi_vd
  | .aload_n k => xi_ld lv k (pc + 1) st h xi_va
  | .aload k => xi_ld lv k (pc + 2) st h xi_va
  | .istore_n k => xi_s1s nL k (pc + 1) lv st h xi_vi
  | .istore k => xi_s1s nL k (pc + 2) lv st h xi_vi
  | .fstore_n k => xi_s1s nL k (pc + 1) lv st h xi_vf
  | .astore_n k => xi_s1s nL k (pc + 1) lv st h xi_va
  | .astore k => xi_s1s nL k (pc + 2) lv st h xi_va
  | .lstore_n k => xi_s2s nL k (pc + 1) lv st h xi_vl
  | .lstore k => xi_s2s nL k (pc + 2) lv st h xi_vl
  | .dstore k => xi_s2s nL k (pc + 2) lv st h xi_vd
  | .iinc k c => match xi_a lv k with
    | some (.int x) => if k < nL then some ((pc + 3, xi_p1 lv k (.int (x + Int32.ofInt c)), st), h) else none
    | _ => none
  | .iadd => xi_ii pc lv st h (fun x y => x + y)
  | .isub => xi_ii pc lv st h (fun x y => x - y)
  | .imul => xi_ii pc lv st h (fun x y => x * y)
  | .iand => xi_ii pc lv st h (fun x y => x &&& y)
  | .ior => xi_ii pc lv st h (fun x y => x ||| y)
  | .ixor => xi_ii pc lv st h (fun x y => x ^^^ y)
  | .ishl => xi_ii pc lv st h (fun x y => x <<< (y &&& 31))
  | .ishr => xi_ii pc lv st h (fun x y => x >>> (y &&& 31))
  | .iushr => xi_ii pc lv st h (fun x y => (x.toUInt32 >>> (y.toUInt32 &&& Int32.toUInt32 31)).toInt32)
  | .idiv => match st with
    | .int y :: .int x :: r => if y = 0 then none else some ((pc + 1, lv, .int (x / y) :: r), h)
    | _ => none
  | .irem => match st with
    | .int y :: .int x :: r => if y = 0 then none else some ((pc + 1, lv, .int (x - x / y * y) :: r), h)
    | _ => none
  | .lmul => match st with
    | .long y :: .long x :: r => some ((pc + 1, lv, .long (x * y) :: r), h)
    | _ => none
  | .lrem => match st with
    | .long y :: .long x :: r => if y = 0 then none else some ((pc + 1, lv, .long (x - x / y * y) :: r), h)
    | _ => none
  | .lcmp => match st with
    | .long y :: .long x :: r => some ((pc + 1, lv, .int (lg_cmp x y) :: r), h)
    | _ => none
  | .i2l => match st with
    | .int x :: r => some ((pc + 1, lv, .long x.toInt64 :: r), h)
    | _ => none
  | .l2i => match st with
    | .long x :: r => some ((pc + 1, lv, .int x.toInt32 :: r), h)
    | _ => none
  | .i2f => match st with
    | .int x :: r => some ((pc + 1, lv, .float (FP.i2f x) :: r), h)
    | _ => none
  | .fdiv => match st with
    | .float y :: .float x :: r => if FP.fdiv x y &&& 0x7fffffff ≤ 0x7f800000 then some ((pc + 1, lv, .float (FP.fdiv x y) :: r), h) else none
    | _ => none
  | .f2d => match st with
    | .float x :: r => if FP.f2d x &&& 0x7fffffffffffffff ≤ 0x7ff0000000000000 then some ((pc + 1, lv, .double (FP.f2d x) :: r), h) else none
    | _ => none
  | .dcmp op => match st with
    | .double y :: .double x :: r => some ((pc + 1, lv, .int (Op.cmpValue (FP.dcmp x y) op) :: r), h)
    | _ => none
  | .dup => match st with
    | v :: r => if v.category = 1 then some ((pc + 1, lv, v :: v :: r), h) else none
    | _ => none
  | .pop => match st with
    | v :: r => if v.category = 1 then some ((pc + 1, lv, r), h) else none
    | _ => none
  | .dup2 => match st with
    | v :: w :: r => if v.category = 1 ∧ w.category = 1 then some ((pc + 1, lv, v :: w :: v :: w :: r), h) else none
    | _ => none
  | .ifCond c off => match st with
    | .int x :: r => xi_ifc c off pc lv x 0 r h
    | _ => none
  | .if_icmp c off => match st with
    | .int y :: .int x :: r => xi_ifc c off pc lv x y r h
    | _ => none
  | .goto off => xi_go pc off lv st h
  | .tableswitch dflt lo hi offs => match st with
    | .int x :: r => if x.toInt < lo ∨ hi < x.toInt then xi_go pc dflt lv r h else (match offs[(x.toInt - lo).toNat]? with
      | some off => xi_go pc off lv r h
      | none => none)
    | _ => none
  | .lookupswitch dflt ps => match st with
    | .int x :: r => if (ps.toList.zip (ps.toList.drop 1)).all (fun (a, next) => a.1 < next.1) = true then xi_go pc (Op.lookupswitch.offset ps.toList dflt x.toInt) lv r h else none
    | _ => none
  | .getfield ix => match xi_a (xfl.getD o []) ix, st with
    | some (c, k, _), .ref a :: r => if a < hN h ∧ (hK h a).1 = c then some ((pc + 3, lv, xi_fv h a c k :: r), h) else none
    | _, _ => none
  | .putfield ix => match xi_a (xfl.getD o []) ix, st with
    | some (c, k, _), .int x :: .ref a :: r => if a < hN h ∧ (hK h a).1 = c ∧ xi_rf c k = false ∧ (xi_bo c k = false ∨ x = 0 ∨ x = 1) ∧ (xi_fn c k = false ∨ (ini = true ∧ o = c + 1)) then some ((pc + 3, lv, r), xi_setI h a k x) else none
    | some (c, k, _), .ref q :: .ref a :: r => if a < hN h ∧ (hK h a).1 = c ∧ xi_rf c k = true ∧ (xi_fn c k = false ∨ (ini = true ∧ o = c + 1)) then some ((pc + 3, lv, r), xi_setR h a k (some q)) else none
    | _, _ => none
  | .iaload => match st with
    | .int i :: .ref a :: r => if a = xi_scr then (if ¬ i < 0 ∧ i.toNatClampNeg + 1 < hL h then some ((pc + 1, lv, .int (hX h i.toNatClampNeg) :: r), h) else none) else if xi_in h a 8 i = true then some ((pc + 1, lv, .int (hI h a i.toNatClampNeg) :: r), h) else none
    | _ => none
  | .baload => match st with
    | .int i :: .ref a :: r => if xi_in h a 9 i = true then some ((pc + 1, lv, .int (hI h a i.toNatClampNeg) :: r), h) else none
    | _ => none
  | .laload => match st with
    | .int i :: .ref a :: r => if xi_in h a 10 i = true then some ((pc + 1, lv, .long (hJ h a i.toNatClampNeg) :: r), h) else none
    | _ => none
  | .aaload => match st with
    | .int i :: .ref a :: r => if 10 < (hK h a).1 ∧ (hK h a).1 < 17 ∧ xi_in h a (hK h a).1 i = true then some ((pc + 1, lv, xi_rv (hR h a i.toNatClampNeg) :: r), h) else none
    | _ => none
  | .iastore => match st with
    | .int x :: .int i :: .ref a :: r => if xi_in h a 8 i = true then some ((pc + 1, lv, r), xi_setI h a i.toNatClampNeg x) else none
    | _ => none
  | .bastore => match st with
    | .int x :: .int i :: .ref a :: r => if xi_in h a 9 i = true ∧ (x = 0 ∨ x = 1) then some ((pc + 1, lv, r), xi_setI h a i.toNatClampNeg x) else none
    | _ => none
  | .lastore => match st with
    | .long x :: .int i :: .ref a :: r => if xi_in h a 10 i = true then some ((pc + 1, lv, r), xi_setJ h a i.toNatClampNeg x) else none
    | _ => none
  | .aastore => match st with
    | .ref v :: .int i :: .ref a :: r => if 10 < (hK h a).1 ∧ (hK h a).1 < 16 ∧ xi_in h a (hK h a).1 i = true ∧ v < hN h ∧ (hK h v).1 = xi_ec (hK h a).1 then some ((pc + 1, lv, r), xi_setR h a i.toNatClampNeg (some v)) else none
    | _ => none
  | .arraylength => match st with
    | .ref a :: r => if a = xi_scr ∧ 0 < hL h then some ((pc + 1, lv, .int (Int32.ofNat (hL h - 1)) :: r), h) else none
    | _ => none
  | .new ix => match xi_a (xnl.getD o []) ix with
    | some (c, _) => if hF h = false ∧ hN h < 900000 ∧ c < 8 then some ((pc + 3, lv, .ref (hN h) :: st), xi_nw h c 0 (xi_nf c)) else none
    | none => none
  | .newarray t => match st with
    | .int n :: r => if hF h = false ∧ hN h < 900000 ∧ ¬ n < 0 ∧ n.toNatClampNeg ≤ 1000 then (match t with
      | .int => some ((pc + 2, lv, .ref (hN h) :: r), xi_nw h 8 n.toNatClampNeg n.toNatClampNeg)
      | .boolean => some ((pc + 2, lv, .ref (hN h) :: r), xi_nw h 9 n.toNatClampNeg n.toNatClampNeg)
      | .long => some ((pc + 2, lv, .ref (hN h) :: r), xi_nw h 10 n.toNatClampNeg n.toNatClampNeg)
      | _ => none) else none
    | _ => none
  | .anewarray ix => match xi_a (xnl.getD o []) ix, st with
    | some (c, _), .int n :: r => if hF h = false ∧ hN h < 900000 ∧ ¬ n < 0 ∧ n.toNatClampNeg ≤ 1000 ∧ xi_ec (xi_ak c) = c ∧ 10 < xi_ak c then some ((pc + 3, lv, .ref (hN h) :: r), xi_nw h (xi_ak c) n.toNatClampNeg n.toNatClampNeg) else none
    | _, _ => none
  | .multianewarray ix dm => if dm ≠ 2 then none else match xi_a (xal.getD o []) ix, st with
    | some _, .int k :: .int n :: r => if hF h = false ∧ hN h + 1000 < 900000 ∧ ¬ n < 0 ∧ ¬ k < 0 ∧ n.toNatClampNeg ≤ 1000 ∧ k.toNatClampNeg ≤ 1000 then some ((pc + 4, lv, .ref (hN h) :: r), xi_mn h n.toNatClampNeg k.toNatClampNeg) else none
    | _, _ => none
  | _ => none
abbrev xRs : Type := (Option Value ⊕ Nat) × xHp
/-- where an exception that comes at pc goes on -/
def xi_hd (o : Nat) : List (Nat × Nat × Nat × Nat) → Nat → Nat → Option Nat
  | [], _, _ => none
  | (a, b, t, c) :: r, pc, E => if a ≤ pc ∧ pc < b then (match xi_a (xel.getD o []) c with
    | some (_, e, _) => if e = E then some t else xi_hd o r pc E
    | none => none) else xi_hd o r pc E
def xi_nc (hh : List (Nat × Nat × Nat × Nat)) (pc : Nat) : Bool := hh.all (fun q => !(decide (q.1 ≤ pc) && decide (pc < q.2.1)))
/-- behind a call -/
def xi_aft (mi : xMi) (kd pc : Nat) (lv : List (Nat × Value)) (rest : List Value) (r : Option xRs) : Option ((xFr × xHp) ⊕ xRs) := match r with
  | some (.inl v, h) => some (.inl ((pc + 3, lv, v.toList ++ rest), h))
  | some (.inr E, h) => if kd = 2 ∨ kd = 3 ∨ kd = 4 then none else (match xi_hd (xi_own mi) (xi_hh mi) pc E with
    | none => if xi_hh mi = [] then some (.inr (.inr E, h)) else none
    | some t => (match xi_a (xi_tb mi) t with
      | some (.astore_n k, _) => if (k : Nat) < xi_mL mi then some (.inl ((t + 1, xi_sp lv k, []), h)) else none
      | some (.astore k, _) => if k < xi_mL mi then some (.inl ((t + 2, xi_sp lv k, []), h)) else none
      | _ => none))
  | none => none
/-- what a call of this kind asks of its arguments -/
def xi_kd (kd : Nat) (mi' : xMi) (av : List Value) (h : xHp) : Bool :=
  if kd = 0 then (match av with
    | .ref a :: _ => decide (a < hN h) && decide ((hK h a).1 + 1 = xi_own mi') && decide ((hK h a).1 < 8)
    | _ => false)
  else if kd = 3 ∨ kd = 4 then (match av with
    | .ref _ :: _ => true
    | _ => false)
  else true
def xi_call (call : Nat → List Value → xHp → Option xRs) (mi : xMi) (pc : Nat) (lv : List (Nat × Value)) (st : List Value) (h : xHp) (kd m' : Nat) : Option ((xFr × xHp) ⊕ xRs) := match xpg[m']? with
  | none => none
  | some mi' => if xi_na mi' ≤ st.length ∧ ((st.drop (xi_na mi')).map fun v => v.category).sum ≤ 8 ∧ (lg_sl (st.take (xi_na mi')).reverse).length ≤ xi_mL mi' ∧ xi_kd kd mi' (st.take (xi_na mi')).reverse h = true then xi_aft mi kd pc lv (st.drop (xi_na mi')) (call m' (st.take (xi_na mi')).reverse h) else none
/-- a step: on, or the end -/
def xi_st (d : Nat) (call : Nat → List Value → xHp → Option xRs) (mi : xMi) (fr : xFr) (h : xHp) : Option ((xFr × xHp) ⊕ xRs) :=
  match xi_a (xi_tb mi) fr.1 with
  | none => none
  | some (i, _) => match i with
    | .ireturn => match fr.2.2 with
      | [.int v] => (match xi_rt mi with
        | some .int => some (.inr (.inl (some (.int v)), h))
        | some .boolean => if v = 0 ∨ v = 1 then some (.inr (.inl (some (.int v)), h)) else none
        | _ => none)
      | _ => none
    | .freturn => match fr.2.2 with
      | [.float v] => if xi_rt mi = some .float then some (.inr (.inl (some (.float v)), h)) else none
      | _ => none
    | .areturn => match fr.2.2 with
      | [.ref a] => (match xi_rt mi with
        | some (.object _) => some (.inr (.inl (some (.ref a)), h))
        | _ => none)
      | _ => none
    | .return_ => match fr.2.2 with
      | [] => if xi_rt mi = none then some (.inr (.inl none, h)) else none
      | _ => none
    | .invokespecial ix => match xi_a (xoi.getD (xi_own mi) []) ix with
      | some _ => (match fr.2.2 with
        | .ref _ :: r => if (r.map fun v => v.category).sum ≤ 8 ∧ 0 < d then some (.inl ((fr.1 + 3, fr.2.1, r), h)) else none
        | _ => none)
      | none => match xi_a (xml.getD (xi_own mi) []) ix with
        | some (kd, m', _) => if kd = 3 ∨ kd = 4 then xi_call call mi fr.1 fr.2.1 fr.2.2 h kd m' else none
        | none => none
    | .invokestatic ix => match xi_a (xml.getD (xi_own mi) []) ix with
      | some (kd, m', _) => if kd = 1 ∨ kd = 2 ∨ kd = 5 then xi_call call mi fr.1 fr.2.1 fr.2.2 h kd m' else none
      | none => none
    | .invokevirtual ix => match xi_a (xml.getD (xi_own mi) []) ix with
      | some (kd, m', _) => if kd = 0 then xi_call call mi fr.1 fr.2.1 fr.2.2 h kd m' else none
      | none => none
    | .new ix => match xi_a (xel.getD (xi_own mi) []) ix with
      | some (ic, E, _) => if 5 < d ∧ xi_hh mi = [] ∧ xi_own mi = 7 ∧ (fr.2.2.map fun v => v.category).sum ≤ 8 ∧ xi_a (xi_tb mi) (fr.1 + 3) = some (.dup, 1) ∧ xi_a (xi_tb mi) (fr.1 + 4) = some (.invokespecial ic, 3) ∧ xi_a (xi_tb mi) (fr.1 + 7) = some (.athrow, 1) then some (.inr (.inr E, xi_fz h)) else none
      | none => (xi_s1 (xi_own mi) (xi_mL mi) ((xi_y mi).name == "<init>") (.new ix) fr.1 fr.2.1 fr.2.2 h).map .inl
    | i => (xi_s1 (xi_own mi) (xi_mL mi) ((xi_y mi).name == "<init>") i fr.1 fr.2.1 fr.2.2 h).map .inl
/-- the run of a method from a frame: n steps at most, d frames -/
def xi_run : Nat → Nat → Nat → xFr → xHp → Option xRs
  | 0, _, _, _, _ => none
  | n + 1, d, m, fr, h => match xpg[m]? with
    | none => none
    | some mi => match xi_st d (fun m' av h1 => match d with
        | 0 => none
        | d' + 1 => xi_run n d' m' (0, lv_args 0 av, []) h1) mi fr h with
      | none => none
      | some (.inl (fr', h')) => xi_run n d m fr' h'
      | some (.inr r) => some r
def xi_h0 : xHp := ((false, 0, 0, 0, 0, fun _ => 0), fun _ => (0, 0), fun _ _ => 0, fun _ _ => 0, fun _ _ => none)
def xi_an : Option xRs → Option Value
  | some (.inl v, _) => v
  | _ => none
