abbrev zV : Type := Int ⊕ (Int ⊕ Nat)
abbrev zM : Type := Nat → Int → Int
abbrev zP : Type := Option zV → zM → Prop
abbrev zT : Type := List zV → zM → zP → Prop
abbrev zK : Type := Nat → List (Option zV) → List zV → zM → Prop
abbrev zF : Type := (Nat → Option (Nat × Nat)) × (Nat → Option zV) × (Nat → Option zV) × (Nat → Option (Nat × Nat × (Int → Int))) × (Nat → Nat → Option zV)
abbrev zN : Type := (Nat → Option (Bool × Nat × Bool × zT)) × Nat
abbrev zH : Type := (Nat × List (Bool ⊕ Nat)) ⊕ ((Nat × Nat) ⊕ List Nat)
def zIR (a : Int) : Prop := -2147483648 ≤ a ∧ a ≤ 2147483647
def zLR (a : Int) : Prop := -9223372036854775808 ≤ a ∧ a ≤ 9223372036854775807
def zFf (F : zF) (i : Nat) : Option (Nat × Nat) := F.1 i
def zFc (F : zF) (i : Nat) : Option zV := F.2.1 i
def zFs (F : zF) (i : Nat) : Option zV := F.2.2.1 i
def zFx (F : zF) (i : Nat) : Option (Nat × Nat × (Int → Int)) := F.2.2.2.1 i
def zFo (F : zF) (i r : Nat) : Option zV := F.2.2.2.2 i r
def zNi (V : zN) (i : Nat) : Option (Bool × Nat × Bool × zT) := V.1 i
def zNr (V : zN) : Nat := V.2
def zup (M : zM) (k : Nat) (a v : Int) : zM := fun k' a' => if k' = k ∧ a' = a then v else M k' a'
def zand (a b : Int) : Int := (Int32.ofInt a &&& Int32.ofInt b).toInt
def zor (a b : Int) : Int := (Int32.ofInt a ||| Int32.ofInt b).toInt
def zxor (a b : Int) : Int := (Int32.ofInt a ^^^ Int32.ofInt b).toInt
def zshl (a b : Int) : Int := (Int32.ofInt a <<< (Int32.ofInt b &&& 31)).toInt
def zshr (a b : Int) : Int := (Int32.ofInt a >>> (Int32.ofInt b &&& 31)).toInt
def zushr (a b : Int) : Int := ((Int32.ofInt a).toUInt32 >>> ((Int32.ofInt b).toUInt32 &&& Int32.toUInt32 31)).toInt32.toInt
def zlshl (a b : Int) : Int := (Int64.ofInt a <<< ((Int32.ofInt b).toInt64 &&& 63)).toInt
def zi2b (a : Int) : Int := (Int32.ofInt a).toInt8.toInt32.toInt
def zi2s (a : Int) : Int := (Int32.ofInt a).toInt16.toInt32.toInt
def zi2c (a : Int) : Int := ((Int32.ofInt a).toUInt32 % 65536).toInt32.toInt
def zcmp (a b : Int) : Int := if b < a then 1 else if a = b then 0 else -1
def ztgt (pc : Nat) (off : Int) : Nat := ((pc : Int) + off).toNat
def zsome (x : Option zV) (f : zV → Prop) : Prop := match x with
  | some v => f v
  | none => False
def zld : List (Option zV) → Nat → (zV → Prop) → Prop
  | [], _, _ => False
  | x :: _, 0, f => zsome x f
  | _ :: ls, n + 1, f => zld ls n f
def zkeep (x : Option zV) : Option zV := match x with
  | some (.inr (.inl _)) => none
  | x => x
def zst1 : List (Option zV) → Nat → zV → List (Option zV)
  | [], _, _ => []
  | _ :: ls, 0, v => some v :: ls
  | x :: ls, 1, v => zkeep x :: zst1 ls 0 v
  | x :: ls, n + 2, v => x :: zst1 ls (n + 1) v
def zst2 : List (Option zV) → Nat → zV → List (Option zV)
  | [], _, _ => []
  | [x], _, _ => [x]
  | _ :: _ :: ls, 0, v => some v :: none :: ls
  | x :: y :: ls, 1, v => zkeep x :: zst2 (y :: ls) 0 v
  | x :: y :: ls, n + 2, v => x :: zst2 (y :: ls) (n + 1) v
def zint (v : zV) (f : Int → Prop) : Prop := match v with
  | .inl a => f a
  | _ => False
def zlong (v : zV) (f : Int → Prop) : Prop := match v with
  | .inr (.inl a) => f a
  | _ => False
def zref (v : zV) (f : Nat → Prop) : Prop := match v with
  | .inr (.inr a) => f a
  | _ => False
def zpop (st : List zV) (f : zV → List zV → Prop) : Prop := match st with
  | v :: st => f v st
  | [] => False
def zp1 (st : List zV) (f : Int → List zV → Prop) : Prop := zpop st (fun v st => zint v (fun a => f a st))
def zp2 (st : List zV) (f : Int → Int → List zV → Prop) : Prop := zp1 st (fun b st => zp1 st (fun a st => f a b st))
def zpl (st : List zV) (f : Int → List zV → Prop) : Prop := zpop st (fun v st => zlong v (fun a => f a st))
def zp2l (st : List zV) (f : Int → Int → List zV → Prop) : Prop := zpl st (fun b st => zpl st (fun a st => f a b st))
def zpr (st : List zV) (f : Nat → List zV → Prop) : Prop := zpop st (fun v st => zref v (fun a => f a st))
def zbr (c A B : Prop) : Prop := (c → A) ∧ (¬ c → B)
def zcond (c : ClassFile.Cond) (a b : Int) : Prop := match c with
  | .eq => a = b
  | .ne => a ≠ b
  | .lt => a < b
  | .ge => b ≤ a
  | .gt => b < a
  | .le => a ≤ b
def zargs : Nat → List zV → List zV → (List zV → List zV → Prop) → Prop
  | 0, as, st, f => f as st
  | n + 1, as, v :: st, f => zargs n (v :: as) st f
  | _ + 1, _, [], _ => False
def zcall (T : zT) (as : List zV) (M : zM) (F : zP) : Prop := ∃ post : zP, T as M post ∧ ∀ r M', post r M' → F r M'
def zans (b : Bool) (r : Option zV) (f : List zV → Prop) : Prop := match b, r with
  | true, some v => f [v]
  | false, none => f []
  | _, _ => False
def zSh : List zH := [
  .inl (7, [.inr 1, .inr 4, .inr 7, .inr 12, .inr 17, .inr 22, .inl false, .inr 23, .inr 27, .inr 31, .inr 32, .inr 33, .inr 34, .inr 35, .inr 36, .inr 37]),
  .inl (5, [.inr 100, .inr 2, .inr 3, .inl false, .inl false, .inl false]),
  .inr (.inl (0, 47)),
  .inr (.inl (0, 40)),
  .inl (5, [.inr 101, .inr 5, .inr 6, .inl false, .inl false, .inl false]),
  .inr (.inl (0, 47)),
  .inr (.inl (0, 40)),
  .inl (4, [.inr 8, .inr 9, .inr 10, .inr 11, .inl false]),
  .inr (.inl (0, 8)),
  .inr (.inl (0, 8)),
  .inr (.inl (0, 8)),
  .inr (.inl (0, 8)),
  .inl (4, [.inr 13, .inr 14, .inr 15, .inr 16, .inl false]),
  .inr (.inl (0, 8)),
  .inr (.inl (0, 8)),
  .inr (.inl (0, 8)),
  .inr (.inl (0, 8)),
  .inl (6, [.inr 18, .inr 19, .inr 20, .inr 21, .inl false]),
  .inr (.inl (0, 8)),
  .inr (.inl (0, 8)),
  .inr (.inl (0, 8)),
  .inr (.inl (0, 8)),
  .inr (.inr [38, 40, 42, 44]),
  .inl (3, [.inr 24, .inr 25, .inr 26, .inl false, .inl false, .inl false]),
  .inr (.inl (0, 4)),
  .inr (.inl (0, 4)),
  .inr (.inl (0, 4)),
  .inl (3, [.inr 28, .inr 29, .inr 30, .inl false, .inl false, .inl false]),
  .inr (.inl (0, 4)),
  .inr (.inl (0, 4)),
  .inr (.inl (0, 4)),
  .inl (2, [.inl false, .inl false, .inl false]),
  .inl (0, [.inl true, .inl true]),
  .inr (.inl (0, 80)),
  .inr (.inl (0, 200)),
  .inr (.inl (0, 10)),
  .inr (.inl (0, 256)),
  .inr (.inl (1, 9)),
  .inl (1, [.inr 39, .inl false, .inl false]),
  .inr (.inl (0, 60)),
  .inl (1, [.inr 41, .inl false, .inl false]),
  .inr (.inl (0, 60)),
  .inl (1, [.inr 43, .inl false, .inl false]),
  .inr (.inl (0, 60)),
  .inl (1, [.inr 45, .inl false, .inl false]),
  .inr (.inl (0, 60)),
  .inl (8, [.inr 47, .inr 48, .inl false, .inr 49, .inr 50, .inl false, .inr 51, .inr 52, .inl false, .inr 53, .inr 54, .inr 55, .inl false, .inr 56, .inr 57, .inr 58, .inl false, .inr 59, .inr 60, .inr 61, .inr 62, .inr 63, .inr 64, .inr 65, .inr 66, .inr 67, .inr 68, .inr 69, .inl false, .inr 70, .inr 71, .inr 72, .inr 73, .inr 74, .inr 75, .inr 76, .inr 77, .inr 78, .inr 79, .inl false]),
  .inr (.inl (0, 2)),
  .inr (.inl (0, 94)),
  .inr (.inl (0, 9)),
  .inr (.inl (0, 36)),
  .inr (.inl (0, 9)),
  .inr (.inl (0, 36)),
  .inr (.inl (0, 10)),
  .inr (.inl (0, 10)),
  .inr (.inl (0, 10)),
  .inr (.inl (0, 10)),
  .inr (.inl (0, 10)),
  .inr (.inl (0, 10)),
  .inr (.inl (0, 32)),
  .inr (.inl (0, 32)),
  .inr (.inl (0, 32)),
  .inr (.inl (0, 8)),
  .inr (.inl (0, 8)),
  .inr (.inl (0, 640)),
  .inr (.inl (0, 640)),
  .inr (.inl (0, 640)),
  .inr (.inl (0, 160)),
  .inr (.inl (0, 160)),
  .inr (.inl (0, 2)),
  .inr (.inl (0, 8)),
  .inr (.inl (0, 8)),
  .inr (.inl (0, 8)),
  .inr (.inl (0, 8)),
  .inr (.inl (0, 200)),
  .inr (.inl (2, 4)),
  .inr (.inl (0, 4)),
  .inr (.inl (0, 4)),
  .inr (.inl (0, 240)),
  .inr (.inl (0, 60))]
def zft (ci r k : Nat) : Option (Bool ⊕ Nat) := match zSh[r]? with
  | some (.inl (c, fs)) => if c = ci then fs[k]? else none
  | _ => none
def zarr (t r : Nat) : Option Nat := match zSh[r]? with
  | some (.inr (.inl (t', n))) => if t' = t then some n else none
  | _ => none
def zrow (r : Nat) : Option (List Nat) := match zSh[r]? with
  | some (.inr (.inr rs)) => some rs
  | _ => none
def zlen (i : Instr) : Nat := match i with
  | .aload _ | .iload _ | .lload _ | .istore _ | .lstore _ | .astore _ | .bipush _ | .ldc _ => 2
  | .sipush _ | .iinc _ _ | .ldc_w _ | .ldc2_w _ | .getfield _ | .putfield _ | .getstatic _ | .goto _ | .ifCond _ _ | .if_icmp _ _ | .invokevirtual _ | .invokestatic _ => 3
  | .tableswitch _ _ _ _ | .lookupswitch _ _ => 0
  | _ => 1
def zsw (dflt lo hi : Int) (offs : Array Int) (x : Int) : Option Int := if x < lo ∨ hi < x then some dflt else offs[(x - lo).toNat]?
def zread (F : zF) (t r : Nat) (M : zM) (i : Int) (f : Int → Prop) : Prop := match zarr t r with
  | some n => (0 ≤ i ∧ i < n) ∧ f (M r i)
  | none => match zFx F r with
    | some (t', n, g) => t' = t ∧ (0 ≤ i ∧ i < n) ∧ f (g i)
    | none => False
def zlenof (F : zF) (r : Nat) (f : Int → Prop) : Prop := match zarr 0 r, zarr 1 r, zFx F r with
  | some n, _, _ => f n
  | none, some n, _ => f n
  | none, none, some (_, n, _) => f n
  | _, _, _ => False
def zwrite (t r : Nat) (i : Int) (f : Prop) : Prop := match zarr t r with
  | some n => (0 ≤ i ∧ i < n) ∧ f
  | none => False
def zgetf (ci r k : Nat) (M : zM) (f : zV → Prop) : Prop := match zft ci r k with
  | some (.inl false) => f (.inl (M r k))
  | some (.inl true) => f (.inr (.inl (M r k)))
  | some (.inr q) => f (.inr (.inr q))
  | none => False
def zputf (ci r k : Nat) (M : zM) (v : zV) (f : zM → Prop) : Prop := match zft ci r k, v with
  | some (.inl false), .inl a => f (zup M r k a)
  | some (.inl true), .inr (.inl a) => f (zup M r k a)
  | _, _ => False
def zopt {α : Type} (o : Option α) (f : α → Prop) : Prop := match o with
  | some a => f a
  | none => False
def zgetx (F : zF) (i r : Nat) (M : zM) (f : zV → Prop) : Prop := match zFf F i with
  | some q => zgetf q.1 r q.2 M f
  | none => zopt (zFo F i r) f
def zcat1 (v : zV) (f : Prop) : Prop := match v with
  | .inr (.inl _) => False
  | _ => f
def zinv (V : zN) (K : zK) (s : Bool) (idx pc : Nat) (ls : List (Option zV)) (st : List zV) (M : zM) : Prop :=
  zopt (zNi V idx) (fun q => q.1 = s ∧ zargs q.2.1 [] st (fun as st => st.length ≤ 4 ∧ zcall q.2.2.2 as M (fun r M' => zans q.2.2.1 r (fun vs => K (pc + 3) ls (vs ++ st) M'))))
def zi (F : zF) (V : zN) (R : zP) (K : zK) (i : Instr) (pc : Nat) (ls : List (Option zV)) (st : List zV) (M : zM) : Prop := match i with
  | .iconst n => K (pc + 1) ls (.inl n :: st) M
  | .bipush n => (-128 ≤ n ∧ n ≤ 127) ∧ K (pc + 2) ls (.inl n :: st) M
  | .sipush n => (-32768 ≤ n ∧ n ≤ 32767) ∧ K (pc + 3) ls (.inl n :: st) M
  | .lconst n => K (pc + 1) ls (.inr (.inl (n.val : Int)) :: st) M
  | .ldc i => zopt (zFc F i) (fun v => zint v (fun a => K (pc + 2) ls (.inl a :: st) M))
  | .ldc_w i => zopt (zFc F i) (fun v => zint v (fun a => K (pc + 3) ls (.inl a :: st) M))
  | .ldc2_w i => zopt (zFc F i) (fun v => zlong v (fun a => K (pc + 3) ls (.inr (.inl a) :: st) M))
  | .iload_n n => zld ls n.val (fun v => zint v (fun a => K (pc + 1) ls (.inl a :: st) M))
  | .iload n => zld ls n (fun v => zint v (fun a => K (pc + 2) ls (.inl a :: st) M))
  | .lload_n n => zld ls n.val (fun v => zlong v (fun a => K (pc + 1) ls (.inr (.inl a) :: st) M))
  | .lload n => zld ls n (fun v => zlong v (fun a => K (pc + 2) ls (.inr (.inl a) :: st) M))
  | .aload_n n => zld ls n.val (fun v => zref v (fun a => K (pc + 1) ls (.inr (.inr a) :: st) M))
  | .aload n => zld ls n (fun v => zref v (fun a => K (pc + 2) ls (.inr (.inr a) :: st) M))
  | .istore_n n => zp1 st (fun a st => n.val < ls.length ∧ K (pc + 1) (zst1 ls n.val (.inl a)) st M)
  | .istore n => zp1 st (fun a st => n < ls.length ∧ K (pc + 2) (zst1 ls n (.inl a)) st M)
  | .lstore_n n => zpl st (fun a st => n.val + 1 < ls.length ∧ K (pc + 1) (zst2 ls n.val (.inr (.inl a))) st M)
  | .lstore n => zpl st (fun a st => n + 1 < ls.length ∧ K (pc + 2) (zst2 ls n (.inr (.inl a))) st M)
  | .astore_n n => zpr st (fun a st => n.val < ls.length ∧ K (pc + 1) (zst1 ls n.val (.inr (.inr a))) st M)
  | .astore n => zpr st (fun a st => n < ls.length ∧ K (pc + 2) (zst1 ls n (.inr (.inr a))) st M)
  | .iinc n d => n < ls.length ∧ zld ls n (fun v => zint v (fun a => K (pc + 3) (zst1 ls n (.inl (a + d))) st M))
  | .iadd => zp2 st (fun a b st => K (pc + 1) ls (.inl (a + b) :: st) M)
  | .isub => zp2 st (fun a b st => K (pc + 1) ls (.inl (a - b) :: st) M)
  | .imul => zp2 st (fun a b st => K (pc + 1) ls (.inl (a * b) :: st) M)
  | .idiv => zp2 st (fun a b st => (zIR a ∧ zIR b ∧ b ≠ 0) ∧ K (pc + 1) ls (.inl (a.tdiv b) :: st) M)
  | .irem => zp2 st (fun a b st => (zIR a ∧ zIR b ∧ b ≠ 0) ∧ K (pc + 1) ls (.inl (a.tmod b) :: st) M)
  | .ineg => zp1 st (fun a st => K (pc + 1) ls (.inl (-a) :: st) M)
  | .iand => zp2 st (fun a b st => K (pc + 1) ls (.inl (zand a b) :: st) M)
  | .ior => zp2 st (fun a b st => K (pc + 1) ls (.inl (zor a b) :: st) M)
  | .ixor => zp2 st (fun a b st => K (pc + 1) ls (.inl (zxor a b) :: st) M)
  | .ishl => zp2 st (fun a b st => K (pc + 1) ls (.inl (zshl a b) :: st) M)
  | .ishr => zp2 st (fun a b st => K (pc + 1) ls (.inl (zshr a b) :: st) M)
  | .iushr => zp2 st (fun a b st => K (pc + 1) ls (.inl (zushr a b) :: st) M)
  | .ladd => zp2l st (fun a b st => K (pc + 1) ls (.inr (.inl (a + b)) :: st) M)
  | .lsub => zp2l st (fun a b st => K (pc + 1) ls (.inr (.inl (a - b)) :: st) M)
  | .lmul => zp2l st (fun a b st => K (pc + 1) ls (.inr (.inl (a * b)) :: st) M)
  | .ldiv => zp2l st (fun a b st => (zLR a ∧ zLR b ∧ b ≠ 0) ∧ K (pc + 1) ls (.inr (.inl (a.tdiv b)) :: st) M)
  | .lrem => zp2l st (fun a b st => (zLR a ∧ zLR b ∧ b ≠ 0) ∧ K (pc + 1) ls (.inr (.inl (a.tmod b)) :: st) M)
  | .lshl => zp1 st (fun b st => zpl st (fun a st => K (pc + 1) ls (.inr (.inl (zlshl a b)) :: st) M))
  | .lcmp => zp2l st (fun a b st => (zLR a ∧ zLR b) ∧ K (pc + 1) ls (.inl (zcmp a b) :: st) M)
  | .i2l => zp1 st (fun a st => zIR a ∧ K (pc + 1) ls (.inr (.inl a) :: st) M)
  | .i2b => zp1 st (fun a st => K (pc + 1) ls (.inl (zi2b a) :: st) M)
  | .i2s => zp1 st (fun a st => K (pc + 1) ls (.inl (zi2s a) :: st) M)
  | .i2c => zp1 st (fun a st => K (pc + 1) ls (.inl (zi2c a) :: st) M)
  | .dup => zpop st (fun v st => zcat1 v (K (pc + 1) ls (v :: v :: st) M))
  | .pop => zpop st (fun v st => zcat1 v (K (pc + 1) ls st M))
  | .dup2 => zpop st (fun v st => zpop st (fun w st => zcat1 v (zcat1 w (K (pc + 1) ls (v :: w :: v :: w :: st) M))))
  | .getfield i => zpr st (fun r st => zgetx F i r M (fun v => K (pc + 3) ls (v :: st) M))
  | .putfield i => zopt (zFf F i) (fun q => zpop st (fun v st => zpr st (fun r st => zputf q.1 r q.2 M v (fun M' => K (pc + 3) ls st M'))))
  | .getstatic i => zopt (zFs F i) (fun q => K (pc + 3) ls (q :: st) M)
  | .iaload => zp1 st (fun i st => zpr st (fun r st => zread F 0 r M i (fun v => K (pc + 1) ls (.inl v :: st) M)))
  | .laload => zp1 st (fun i st => zpr st (fun r st => zread F 1 r M i (fun v => K (pc + 1) ls (.inr (.inl v) :: st) M)))
  | .baload => zp1 st (fun i st => zpr st (fun r st => zread F 2 r M i (fun v => K (pc + 1) ls (.inl v :: st) M)))
  | .iastore => zp2 st (fun i v st => zpr st (fun r st => zwrite 0 r i (K (pc + 1) ls st (zup M r i v))))
  | .bastore => zp2 st (fun i v st => zpr st (fun r st => zwrite 2 r i ((v = 0 ∨ v = 1) ∧ K (pc + 1) ls st (zup M r i v))))
  | .lastore => zpl st (fun v st => zp1 st (fun i st => zpr st (fun r st => zwrite 1 r i (K (pc + 1) ls st (zup M r i v)))))
  | .aaload => zp1 st (fun i st => zpr st (fun r st => zopt (zrow r) (fun rs => (0 ≤ i ∧ i < rs.length) ∧ K (pc + 1) ls (.inr (.inr (rs.getD i.toNat 0)) :: st) M)))
  | .arraylength => zpr st (fun r st => zlenof F r (fun n => K (pc + 1) ls (.inl n :: st) M))
  | .goto off => 0 ≤ (pc : Int) + off ∧ K (ztgt pc off) ls st M
  | .ifCond c off => zp1 st (fun a st => (zIR a ∧ 0 ≤ (pc : Int) + off) ∧ zbr (zcond c a 0) (K (ztgt pc off) ls st M) (K (pc + 3) ls st M))
  | .if_icmp c off => zp2 st (fun a b st => (zIR a ∧ zIR b ∧ 0 ≤ (pc : Int) + off) ∧ zbr (zcond c a b) (K (ztgt pc off) ls st M) (K (pc + 3) ls st M))
  | .tableswitch d lo hi offs => zp1 st (fun a st => zIR a ∧ zopt (zsw d lo hi offs a) (fun off => 0 ≤ (pc : Int) + off ∧ K (ztgt pc off) ls st M))
  | .lookupswitch d ps => zp1 st (fun a st => zIR a ∧ (ps.toList.zip (ps.toList.drop 1)).all (fun (a, next) => a.1 < next.1) = true ∧ 0 ≤ (pc : Int) + Op.lookupswitch.offset ps.toList d a ∧ K (ztgt pc (Op.lookupswitch.offset ps.toList d a)) ls st M)
  | .ireturn => zp1 st (fun a st => st = [] ∧ (zNr V = 1 ∨ (zNr V = 2 ∧ (a = 0 ∨ a = 1)) ∨ (zNr V = 5 ∧ a = 0)) ∧ R (some (.inl a)) M)
  | .lreturn => zpl st (fun a st => st = [] ∧ zNr V = 3 ∧ R (some (.inr (.inl a))) M)
  | .areturn => zpr st (fun a st => st = [] ∧ zNr V = 4 ∧ R (some (.inr (.inr a))) M)
  | .return_ => st = [] ∧ zNr V = 0 ∧ R none M
  | .invokevirtual i => zinv V K false i pc ls st M
  | .invokestatic i => zinv V K true i pc ls st M
  | _ => False
def zstep (F : zF) (V : zN) (R : zP) (cc : ByteArray) (K : zK) : zK := fun pc ls st M => ∃ (i : Instr) (len : Nat), decode cc pc = .ok (i, len) ∧ (zlen i = len ∨ zlen i = 0) ∧ zi F V R K i pc ls st M
def zU (F : zF) (V : zN) (cc : ByteArray) (R : zP) : zK := fun pc ls st M => ∀ P : zK, (∀ pc ls st M, zstep F V R cc P pc ls st M → P pc ls st M) → P pc ls st M

theorem zopt_mono {α : Type} {o : Option α} {f g : α → Prop} (h : ∀ a, f a → g a) (q : zopt o f) : zopt o g := by
  cases o with
  | none => exact q
  | some a => exact h a q
theorem zint_mono {v : zV} {f g : Int → Prop} (h : ∀ a, f a → g a) (q : zint v f) : zint v g := by
  rcases v with a | a | a
  · exact h a q
  · exact q
  · exact q
theorem zlong_mono {v : zV} {f g : Int → Prop} (h : ∀ a, f a → g a) (q : zlong v f) : zlong v g := by
  rcases v with a | a | a
  · exact q
  · exact h a q
  · exact q
theorem zref_mono {v : zV} {f g : Nat → Prop} (h : ∀ a, f a → g a) (q : zref v f) : zref v g := by
  rcases v with a | a | a
  · exact q
  · exact q
  · exact h a q
theorem zpop_mono {st : List zV} {f g : zV → List zV → Prop} (h : ∀ a st, f a st → g a st) (q : zpop st f) : zpop st g := by
  cases st with
  | nil => exact q
  | cons v st => exact h v st q
theorem zp1_mono {st : List zV} {f g : Int → List zV → Prop} (h : ∀ a st, f a st → g a st) (q : zp1 st f) : zp1 st g := zpop_mono (fun _ _ => zint_mono (fun _ => h _ _)) q
theorem zpl_mono {st : List zV} {f g : Int → List zV → Prop} (h : ∀ a st, f a st → g a st) (q : zpl st f) : zpl st g := zpop_mono (fun _ _ => zlong_mono (fun _ => h _ _)) q
theorem zpr_mono {st : List zV} {f g : Nat → List zV → Prop} (h : ∀ a st, f a st → g a st) (q : zpr st f) : zpr st g := zpop_mono (fun _ _ => zref_mono (fun _ => h _ _)) q
theorem zp2_mono {st : List zV} {f g : Int → Int → List zV → Prop} (h : ∀ a b st, f a b st → g a b st) (q : zp2 st f) : zp2 st g := zp1_mono (fun _ _ => zp1_mono (fun _ _ => h _ _ _)) q
theorem zp2l_mono {st : List zV} {f g : Int → Int → List zV → Prop} (h : ∀ a b st, f a b st → g a b st) (q : zp2l st f) : zp2l st g := zpl_mono (fun _ _ => zpl_mono (fun _ _ => h _ _ _)) q
theorem zld_mono : ∀ {ls : List (Option zV)} {n : Nat} {f g : zV → Prop}, (∀ a, f a → g a) → zld ls n f → zld ls n g
  | [], _, _, _, _, q => by simp [zld] at q
  | none :: _, 0, _, _, _, q => by simp [zld, zsome] at q
  | some v :: _, 0, _, _, h, q => by simp only [zld, zsome] at q ⊢; exact h v q
  | _ :: ls, n + 1, _, _, h, q => by simp only [zld] at q ⊢; exact zld_mono h q
theorem zcat1_mono {v : zV} {f g : Prop} (h : f → g) (q : zcat1 v f) : zcat1 v g := by
  rcases v with a | a | a
  · exact h q
  · exact q
  · exact h q
theorem zread_mono {F : zF} {t r : Nat} {M : zM} {i : Int} {f g : Int → Prop} (h : ∀ a, f a → g a) (q : zread F t r M i f) : zread F t r M i g := by
  unfold zread at q ⊢
  cases hn : zarr t r with
  | some n =>
    rw [hn] at q
    exact ⟨q.1, h _ q.2⟩
  | none =>
    rw [hn] at q
    cases hx : zFx F r with
    | none => simp only [hx] at q
    | some p => simp only [hx] at q ⊢; exact ⟨q.1, q.2.1, h _ q.2.2⟩
theorem zlenof_mono {F : zF} {r : Nat} {f g : Int → Prop} (h : ∀ a, f a → g a) (q : zlenof F r f) : zlenof F r g := by
  unfold zlenof at q ⊢
  split at q <;> simp_all
theorem zwrite_mono {t r : Nat} {i : Int} {f g : Prop} (h : f → g) (q : zwrite t r i f) : zwrite t r i g := by
  unfold zwrite at q ⊢
  split at q
  · exact ⟨q.1, h q.2⟩
  · exact q
theorem zgetf_mono {ci r k : Nat} {M : zM} {f g : zV → Prop} (h : ∀ a, f a → g a) (q : zgetf ci r k M f) : zgetf ci r k M g := by
  unfold zgetf at q ⊢
  split at q
  · exact h _ q
  · exact h _ q
  · exact h _ q
  · exact q
theorem zgetx_mono {F : zF} {i r : Nat} {M : zM} {f g : zV → Prop} (h : ∀ a, f a → g a) (q : zgetx F i r M f) : zgetx F i r M g := by
  unfold zgetx at q ⊢
  split at q
  · exact zgetf_mono h q
  · exact zopt_mono h q
theorem zputf_mono {ci r k : Nat} {M : zM} {v : zV} {f g : zM → Prop} (h : ∀ a, f a → g a) (q : zputf ci r k M v f) : zputf ci r k M v g := by
  unfold zputf at q ⊢
  split at q
  · exact h _ q
  · exact h _ q
  · exact q
theorem zbr_mono {c A B A' B' : Prop} (h1 : A → A') (h2 : B → B') (q : zbr c A B) : zbr c A' B' := ⟨fun hc => h1 (q.1 hc), fun hc => h2 (q.2 hc)⟩
theorem zargs_mono : ∀ {n : Nat} {as st : List zV} {f g : List zV → List zV → Prop}, (∀ a st, f a st → g a st) → zargs n as st f → zargs n as st g
  | 0, _, _, _, _, h, q => h _ _ q
  | n + 1, _, _ :: _, _, _, h, q => by simp only [zargs] at q ⊢; exact zargs_mono h q
  | n + 1, _, [], _, _, _, q => by simp [zargs] at q
theorem zcall_mono {T : zT} {as : List zV} {M : zM} {f g : zP} (h : ∀ r M, f r M → g r M) (q : zcall T as M f) : zcall T as M g := by
  obtain ⟨post, h1, h2⟩ := q
  exact ⟨post, h1, fun r M' k => h r M' (h2 r M' k)⟩
theorem zans_mono {b : Bool} {r : Option zV} {f g : List zV → Prop} (h : ∀ vs, f vs → g vs) (q : zans b r f) : zans b r g := by
  unfold zans at q ⊢
  split at q
  · exact h _ q
  · exact h _ q
  · exact q
theorem zinv_mono {V : zN} {K K' : zK} (h : ∀ pc ls st M, K pc ls st M → K' pc ls st M) {s : Bool} {idx pc : Nat} {ls : List (Option zV)} {st : List zV} {M : zM} (q : zinv V K s idx pc ls st M) : zinv V K' s idx pc ls st M :=
  zopt_mono (fun _ q => ⟨q.1, zargs_mono (fun _ _ q => ⟨q.1, zcall_mono (fun _ _ => zans_mono (fun _ => h _ _ _ _)) q.2⟩) q.2⟩) q
set_option maxHeartbeats 4000000 in
theorem zi_mono {F : zF} {V : zN} {R R' : zP} {K K' : zK} (hR : ∀ r M, R r M → R' r M) (h : ∀ pc ls st M, K pc ls st M → K' pc ls st M) {i : Instr} {pc : Nat} {ls : List (Option zV)} {st : List zV} {M : zM} (q : zi F V R K i pc ls st M) : zi F V R' K' i pc ls st M := by
  cases i
  case iconst => exact h _ _ _ _ q
  case bipush => exact ⟨q.1, h _ _ _ _ q.2⟩
  case sipush => exact ⟨q.1, h _ _ _ _ q.2⟩
  case lconst => exact h _ _ _ _ q
  case ldc => exact zopt_mono (fun _ => zint_mono (fun _ => h _ _ _ _)) q
  case ldc_w => exact zopt_mono (fun _ => zint_mono (fun _ => h _ _ _ _)) q
  case ldc2_w => exact zopt_mono (fun _ => zlong_mono (fun _ => h _ _ _ _)) q
  case iload_n => exact zld_mono (fun _ => zint_mono (fun _ => h _ _ _ _)) q
  case iload => exact zld_mono (fun _ => zint_mono (fun _ => h _ _ _ _)) q
  case lload_n => exact zld_mono (fun _ => zlong_mono (fun _ => h _ _ _ _)) q
  case lload => exact zld_mono (fun _ => zlong_mono (fun _ => h _ _ _ _)) q
  case aload_n => exact zld_mono (fun _ => zref_mono (fun _ => h _ _ _ _)) q
  case aload => exact zld_mono (fun _ => zref_mono (fun _ => h _ _ _ _)) q
  case istore_n => exact zp1_mono (fun _ _ q => ⟨q.1, h _ _ _ _ q.2⟩) q
  case istore => exact zp1_mono (fun _ _ q => ⟨q.1, h _ _ _ _ q.2⟩) q
  case lstore_n => exact zpl_mono (fun _ _ q => ⟨q.1, h _ _ _ _ q.2⟩) q
  case lstore => exact zpl_mono (fun _ _ q => ⟨q.1, h _ _ _ _ q.2⟩) q
  case astore_n => exact zpr_mono (fun _ _ q => ⟨q.1, h _ _ _ _ q.2⟩) q
  case astore => exact zpr_mono (fun _ _ q => ⟨q.1, h _ _ _ _ q.2⟩) q
  case iinc => exact ⟨q.1, zld_mono (fun _ => zint_mono (fun _ => h _ _ _ _)) q.2⟩
  case iadd => exact zp2_mono (fun _ _ _ => h _ _ _ _) q
  case isub => exact zp2_mono (fun _ _ _ => h _ _ _ _) q
  case imul => exact zp2_mono (fun _ _ _ => h _ _ _ _) q
  case idiv => exact zp2_mono (fun _ _ _ q => ⟨q.1, h _ _ _ _ q.2⟩) q
  case irem => exact zp2_mono (fun _ _ _ q => ⟨q.1, h _ _ _ _ q.2⟩) q
  case ineg => exact zp1_mono (fun _ _ => h _ _ _ _) q
  case iand => exact zp2_mono (fun _ _ _ => h _ _ _ _) q
  case ior => exact zp2_mono (fun _ _ _ => h _ _ _ _) q
  case ixor => exact zp2_mono (fun _ _ _ => h _ _ _ _) q
  case ishl => exact zp2_mono (fun _ _ _ => h _ _ _ _) q
  case ishr => exact zp2_mono (fun _ _ _ => h _ _ _ _) q
  case iushr => exact zp2_mono (fun _ _ _ => h _ _ _ _) q
  case ladd => exact zp2l_mono (fun _ _ _ => h _ _ _ _) q
  case lsub => exact zp2l_mono (fun _ _ _ => h _ _ _ _) q
  case lmul => exact zp2l_mono (fun _ _ _ => h _ _ _ _) q
  case ldiv => exact zp2l_mono (fun _ _ _ q => ⟨q.1, h _ _ _ _ q.2⟩) q
  case lrem => exact zp2l_mono (fun _ _ _ q => ⟨q.1, h _ _ _ _ q.2⟩) q
  case lshl => exact zp1_mono (fun _ _ => zpl_mono (fun _ _ => h _ _ _ _)) q
  case lcmp => exact zp2l_mono (fun _ _ _ q => ⟨q.1, h _ _ _ _ q.2⟩) q
  case i2l => exact zp1_mono (fun _ _ q => ⟨q.1, h _ _ _ _ q.2⟩) q
  case i2b => exact zp1_mono (fun _ _ => h _ _ _ _) q
  case i2s => exact zp1_mono (fun _ _ => h _ _ _ _) q
  case i2c => exact zp1_mono (fun _ _ => h _ _ _ _) q
  case dup => exact zpop_mono (fun _ _ => zcat1_mono (h _ _ _ _)) q
  case pop => exact zpop_mono (fun _ _ => zcat1_mono (h _ _ _ _)) q
  case dup2 => exact zpop_mono (fun _ _ => zpop_mono (fun _ _ => zcat1_mono (zcat1_mono (h _ _ _ _)))) q
  case getfield => exact zpr_mono (fun _ _ => zgetx_mono (fun _ => h _ _ _ _)) q
  case putfield => exact zopt_mono (fun _ => zpop_mono (fun _ _ => zpr_mono (fun _ _ => zputf_mono (fun _ => h _ _ _ _)))) q
  case getstatic => exact zopt_mono (fun _ => h _ _ _ _) q
  case iaload => exact zp1_mono (fun _ _ => zpr_mono (fun _ _ => zread_mono (fun _ => h _ _ _ _))) q
  case laload => exact zp1_mono (fun _ _ => zpr_mono (fun _ _ => zread_mono (fun _ => h _ _ _ _))) q
  case baload => exact zp1_mono (fun _ _ => zpr_mono (fun _ _ => zread_mono (fun _ => h _ _ _ _))) q
  case iastore => exact zp2_mono (fun _ _ _ => zpr_mono (fun _ _ => zwrite_mono (h _ _ _ _))) q
  case bastore => exact zp2_mono (fun _ _ _ => zpr_mono (fun _ _ => zwrite_mono (fun q => ⟨q.1, h _ _ _ _ q.2⟩))) q
  case lastore => exact zpl_mono (fun _ _ => zp1_mono (fun _ _ => zpr_mono (fun _ _ => zwrite_mono (h _ _ _ _)))) q
  case aaload => exact zp1_mono (fun _ _ => zpr_mono (fun _ _ => zopt_mono (fun _ q => ⟨q.1, h _ _ _ _ q.2⟩))) q
  case arraylength => exact zpr_mono (fun _ _ => zlenof_mono (fun _ => h _ _ _ _)) q
  case goto => exact ⟨q.1, h _ _ _ _ q.2⟩
  case ifCond => exact zp1_mono (fun _ _ q => ⟨q.1, zbr_mono (h _ _ _ _) (h _ _ _ _) q.2⟩) q
  case if_icmp => exact zp2_mono (fun _ _ _ q => ⟨q.1, zbr_mono (h _ _ _ _) (h _ _ _ _) q.2⟩) q
  case tableswitch => exact zp1_mono (fun _ _ q => ⟨q.1, zopt_mono (fun _ q => ⟨q.1, h _ _ _ _ q.2⟩) q.2⟩) q
  case lookupswitch => exact zp1_mono (fun _ _ q => ⟨q.1, q.2.1, q.2.2.1, h _ _ _ _ q.2.2.2⟩) q
  case ireturn => exact zp1_mono (fun _ _ q => ⟨q.1, q.2.1, hR _ _ q.2.2⟩) q
  case lreturn => exact zpl_mono (fun _ _ q => ⟨q.1, q.2.1, hR _ _ q.2.2⟩) q
  case areturn => exact zpr_mono (fun _ _ q => ⟨q.1, q.2.1, hR _ _ q.2.2⟩) q
  case return_ => exact ⟨q.1, q.2.1, hR _ _ q.2.2⟩
  case invokevirtual => exact zinv_mono h q
  case invokestatic => exact zinv_mono h q
  all_goals exact False.elim q
theorem zstep_mono {F : zF} {V : zN} {R R' : zP} {cc : ByteArray} {K K' : zK} (hR : ∀ r M, R r M → R' r M) (h : ∀ pc ls st M, K pc ls st M → K' pc ls st M) {pc : Nat} {ls : List (Option zV)} {st : List zV} {M : zM} (q : zstep F V R cc K pc ls st M) : zstep F V R' cc K' pc ls st M := by
  obtain ⟨i, len, h1, h2, h3⟩ := q
  exact ⟨i, len, h1, h2, zi_mono hR h h3⟩
theorem zU_in {F : zF} {V : zN} {cc : ByteArray} {R : zP} {pc : Nat} {ls : List (Option zV)} {st : List zV} {M : zM} (h : zstep F V R cc (zU F V cc R) pc ls st M) : zU F V cc R pc ls st M := by
  intro P hP
  exact hP _ _ _ _ (zstep_mono (fun _ _ h => h) (fun pc ls st M q => q P hP) h)
theorem zU_out {F : zF} {V : zN} {cc : ByteArray} {R : zP} {pc : Nat} {ls : List (Option zV)} {st : List zV} {M : zM} (h : zU F V cc R pc ls st M) : zstep F V R cc (zU F V cc R) pc ls st M :=
  h (zstep F V R cc (zU F V cc R)) (fun _ _ _ _ q => zstep_mono (fun _ _ h => h) (fun _ _ _ _ q => zU_in q) q)
theorem zU_step {F : zF} {V : zN} {cc : ByteArray} {R : zP} {pc : Nat} {ls : List (Option zV)} {st : List zV} {M : zM} {i : Instr} {len : Nat} (d : decode cc pc = .ok (i, len)) (hl : zlen i = len ∨ zlen i = 0) : zU F V cc R pc ls st M ↔ zi F V R (zU F V cc R) i pc ls st M := by
  constructor
  · intro h
    obtain ⟨i', len', h1, _, h3⟩ := zU_out h
    rw [d] at h1
    cases h1
    exact h3
  · intro h
    exact zU_in ⟨i, len, d, hl, h⟩
theorem zU_mono {F : zF} {V : zN} {cc : ByteArray} {R R' : zP} (hR : ∀ r M, R r M → R' r M) {pc : Nat} {ls : List (Option zV)} {st : List zV} {M : zM} (h : zU F V cc R pc ls st M) : zU F V cc R' pc ls st M := by
  intro P hP
  exact h P (fun pc ls st M q => hP _ _ _ _ (zstep_mono hR (fun _ _ _ _ q => q) q))
