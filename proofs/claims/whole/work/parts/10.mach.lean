/-! THE PURE MACHINE: the program's rows over whole numbers; a heap of numbered things (0 nothing, 1 the script, 2 and on what was made), each with a kind, a length and its values.
Wp d rc rs m pc ls st h q: from row pc of method m, with locals ls, stack st and heap h, with d frames, rc cells and rs slots of room, the machine comes to an end of m with q. -/
abbrev PV : Type := Int ⊕ (Int ⊕ Int)
abbrev PH : Type := (Int → Int → Int) × (Int → Int) × (Int → Int) × Int
abbrev PQ : Type := Option PV → PH → Prop
abbrev PP : Type := Nat → Nat → Nat → Nat → Nat → List (Option PV) → List PV → PH → PQ → Prop
def gv (h : PH) (a i : Int) : Int := h.1 a i
def tg (h : PH) (a : Int) : Int := h.2.1 a
def ln (h : PH) (a : Int) : Int := h.2.2.1 a
def nx (h : PH) : Int := h.2.2.2
def sv (h : PH) (a i v : Int) : PH := (fun b j => if b = a ∧ j = i then v else h.1 b j, h.2)
def al (h : PH) (t n : Int) : PH := (fun b j => if b = nx h then 0 else gv h b j, fun b => if b = nx h then t else tg h b, fun b => if b = nx h then n else ln h b, nx h + 1)
def alc (h : PH) (a : Int) : PH := (fun b j => if b = nx h then gv h a j else gv h b j, fun b => if b = nx h then 100 else tg h b, fun b => if b = nx h then ln h a else ln h b, nx h + 1)
def al2 (h : PH) (n k : Int) : PH := (fun b j => if b = nx h then (if j < n then nx h + 1 + j else 0) else if nx h < b ∧ b ≤ nx h + n then 0 else gv h b j,
  fun b => if b = nx h then 106 else if nx h < b ∧ b ≤ nx h + n then 100 else tg h b, fun b => if b = nx h then n else if nx h < b ∧ b ≤ nx h + n then k else ln h b, nx h + 1 + n)
def cp (h : PH) (a sp b dp n : Int) : PH := (fun c j => if c = b ∧ dp ≤ j ∧ j < dp + n then gv h a (sp + (j - dp)) else gv h c j, h.2)
def w8 (x : Int) : Int := Int.bmod x 256
def w32 (x : Int) : Int := Int.bmod x 4294967296
def w64 (x : Int) : Int := Int.bmod x 18446744073709551616
def an32 (x y : Int) : Int := (BitVec.ofInt 32 x &&& BitVec.ofInt 32 y).toInt
def or32 (x y : Int) : Int := (BitVec.ofInt 32 x ||| BitVec.ofInt 32 y).toInt
def an64 (x y : Int) : Int := (BitVec.ofInt 64 x &&& BitVec.ofInt 64 y).toInt
def or64 (x y : Int) : Int := (BitVec.ofInt 64 x ||| BitVec.ofInt 64 y).toInt
def xo64 (x y : Int) : Int := (BitVec.ofInt 64 x ^^^ BitVec.ofInt 64 y).toInt
def us32 (x y : Int) : Int := w32 (x % 4294967296 / 2 ^ y.toNat)
def us64 (x y : Int) : Int := w64 (x % 18446744073709551616 / 2 ^ y.toNat)
def catS : List PV → Nat
  | [] => 0
  | .inr (.inl _) :: r => 2 + catS r
  | _ :: r => 1 + catS r
def mkv (k : Nat) (x : Int) : PV := match k with
  | 1 => .inr (.inl x)
  | 2 => .inr (.inr x)
  | _ => .inl x
def st1 (ls : List (Option PV)) (k : Nat) (v : PV) : List (Option PV) := match k with
  | 0 => ls.set 0 (some v)
  | j + 1 => match ls[j]? with
    | some (some (.inr (.inl _))) => (ls.set j none).set (j + 1) (some v)
    | _ => ls.set (j + 1) (some v)
def st2 (ls : List (Option PV)) (k : Nat) (x : Int) : List (Option PV) := (st1 ls k (.inr (.inl x))).set (k + 1) none
def entL : List PV → List (Option PV)
  | [] => []
  | .inr (.inl x) :: r => some (.inr (.inl x)) :: none :: entL r
  | v :: r => some v :: entL r
def mML (m : Nat) : Nat := (minf m).2.2.1
def mC (m : Nat) : Nat := (minf m).2.2.2.2.1
def mK (m : Nat) : Nat := (minf m).2.2.2.2.2.1
def mN (m : Nat) : Nat := (minf m).2.2.2.2.2.2.1
def mR (m : Nat) : Nat := (minf m).2.2.2.2.2.2.2
/-- the cells and the slots that a call of a method may make -/
def aCS (m : Nat) : Nat × Nat :=
  if m = M_X11_init then (100, 20000) else if m = M_X12_init then (80, 300000) else if m = M_X0_init then (5, 1100) else if m = M_X2_init then (8, 2000) else if m = M_X3_init then (1, 64) else
  if m = M_X4_init then (3, 2500) else if m = M_X5_init then (8, 300) else if m = M_X6_init then (30, 3000) else if m = M_X7_init then (6, 100) else if m = M_X8_init then (6, 2000) else if m = M_X9_init then (1, 700) else
  if m = M_X10_init then (1, 701) else if m = M_X1_init then (6, 2900) else if m = M_X2_makeBook then (8, 3000) else if m = M_X11_book then (8, 3000) else if m = M_J7_copyOf_59c91 then (1, 700) else if m = M_L_law then (6000, 1000000) else (0, 0)
def entry (m : Nat) (as : List PV) : List (Option PV) := entL as ++ List.replicate (mML m - (entL as).length) none
def recv (h : PH) (c : Nat) : Option PV → Prop
  | some (.inr (.inr a)) => tg h a = (c : Int)
  | _ => False
def swt (x : Int) (K : Int → Prop) (d : Int) : List (Int × Int) → Prop
  | [] => K d
  | e :: t => (x = e.1 → K e.2) ∧ (¬ x = e.1 → swt x K d t)
def callP (P : PP) (k kind n d rc rs m pc : Nat) (ls : List (Option PV)) (st : List PV) (h : PH) (q : PQ) : Prop :=
  k < M_L_law ∧ mK k = kind ∧ mN k ≤ st.length ∧ 0 < d ∧ (aCS k).1 ≤ rc ∧ (aCS k).2 ≤ rs ∧ catS (st.drop (mN k)) ≤ 8 ∧ (entL (st.take (mN k)).reverse).length ≤ mML k ∧ (kind ≠ 0 → recv h (mC k) st[mN k - 1]?) ∧
  ∃ q1 : PQ, P (d - 1) (aCS k).1 (aCS k).2 k 0 (entry k (st.take (mN k)).reverse) [] h q1 ∧ ∀ (r : Option PV) (h' : PH), q1 r h' → P d (rc - (aCS k).1) (rs - (aCS k).2) m (pc + n) ls (r.toList ++ st.drop (mN k)) h' q
def atc : ArrayType → Int
  | .int => 100
  | .long => 101
  | .byte => 102
  | .boolean => 103
  | .char => 104
  | _ => -5
def ar2 (st : List PV) (K : Int → Int → List PV → Prop) : Prop := match st with
  | .inl y :: .inl x :: r => K x y r
  | _ => False
def al2l (st : List PV) (K : Int → Int → List PV → Prop) : Prop := match st with
  | .inr (.inl y) :: .inr (.inl x) :: r => K x y r
  | _ => False
def asl (st : List PV) (K : Int → Int → List PV → Prop) : Prop := match st with
  | .inl y :: .inr (.inl x) :: r => K x y r
  | _ => False
def ai1 (st : List PV) (K : Int → List PV → Prop) : Prop := match st with
  | .inl x :: r => K x r
  | _ => False
def alo (st : List PV) (K : Int → List PV → Prop) : Prop := match st with
  | .inr (.inl x) :: r => K x r
  | _ => False
def are (st : List PV) (K : Int → List PV → Prop) : Prop := match st with
  | .inr (.inr x) :: r => K x r
  | _ => False
def asr (st : List PV) (K : PV → List PV → Prop) : Prop := match st with
  | x :: r => K x r
  | _ => False
def lod (ls : List (Option PV)) (k : Nat) (K : PV → Prop) : Prop := match ls[k]? with
  | some (some v) => K v
  | _ => False
def isI (v : PV) (K : Int → Prop) : Prop := match v with
  | .inl x => K x
  | _ => False
def isL (v : PV) (K : Int → Prop) : Prop := match v with
  | .inr (.inl x) => K x
  | _ => False
def isR (v : PV) (K : Int → Prop) : Prop := match v with
  | .inr (.inr x) => K x
  | _ => False
/-- a value of the kind k, as a number -/
def isK (k : Nat) (v : PV) (K : Int → Prop) : Prop := match k with
  | 0 => isI v K
  | 1 => isL v K
  | 2 => isR v K
  | 3 => isI v (fun x => (x = 0 ∨ x = 1) ∧ K x)
  | _ => False
def iCnd (c : ClassFile.Cond) (x y : Int) : Prop := match c with
  | .eq => x = y
  | .ne => x ≠ y
  | .lt => x < y
  | .ge => ¬ x < y
  | .gt => y < x
  | .le => ¬ y < x
/-- ONE STEP -/
def stp (P : PP) (i : Instr) (n d rc rs m pc : Nat) (ls : List (Option PV)) (st : List PV) (h : PH) (q : PQ) : Prop := match i with
  | .bipush x => P d rc rs m (pc + n) ls (.inl x :: st) h q
  | .sipush x => P d rc rs m (pc + n) ls (.inr (.inl x) :: st) h q
  | .aconst_null => P d rc rs m (pc + n) ls (.inr (.inr 0) :: st) h q
  | .iload k => lod ls k fun v => isI v fun x => P d rc rs m (pc + n) ls (.inl x :: st) h q
  | .lload k => lod ls k fun v => isL v fun x => P d rc rs m (pc + n) ls (.inr (.inl x) :: st) h q
  | .aload k => lod ls k fun v => isR v fun x => P d rc rs m (pc + n) ls (.inr (.inr x) :: st) h q
  | .istore k => ai1 st fun x r => k < ls.length ∧ P d rc rs m (pc + n) (st1 ls k (.inl x)) r h q
  | .lstore k => alo st fun x r => k + 1 < ls.length ∧ P d rc rs m (pc + n) (st2 ls k x) r h q
  | .astore k => are st fun x r => k < ls.length ∧ P d rc rs m (pc + n) (st1 ls k (.inr (.inr x))) r h q
  | .iinc k c => lod ls k fun v => isI v fun x => P d rc rs m (pc + n) (st1 ls k (.inl (w32 (x + c)))) st h q
  | .iadd => ar2 st fun x y r => P d rc rs m (pc + n) ls (.inl (w32 (x + y)) :: r) h q
  | .isub => ar2 st fun x y r => P d rc rs m (pc + n) ls (.inl (w32 (x - y)) :: r) h q
  | .imul => ar2 st fun x y r => P d rc rs m (pc + n) ls (.inl (w32 (x * y)) :: r) h q
  | .idiv => ar2 st fun x y r => y ≠ 0 ∧ P d rc rs m (pc + n) ls (.inl (w32 (Int.tdiv x y)) :: r) h q
  | .irem => ar2 st fun x y r => y ≠ 0 ∧ P d rc rs m (pc + n) ls (.inl (Int.tmod x y) :: r) h q
  | .iand => ar2 st fun x y r => P d rc rs m (pc + n) ls (.inl (an32 x y) :: r) h q
  | .ior => ar2 st fun x y r => P d rc rs m (pc + n) ls (.inl (or32 x y) :: r) h q
  | .ishl => ar2 st fun x y r => 0 ≤ y ∧ y < 32 ∧ P d rc rs m (pc + n) ls (.inl (w32 (x * 2 ^ y.toNat)) :: r) h q
  | .ishr => ar2 st fun x y r => 0 ≤ y ∧ y < 32 ∧ P d rc rs m (pc + n) ls (.inl (x / 2 ^ y.toNat) :: r) h q
  | .iushr => ar2 st fun x y r => 0 ≤ y ∧ y < 32 ∧ P d rc rs m (pc + n) ls (.inl (us32 x y) :: r) h q
  | .ladd => al2l st fun x y r => P d rc rs m (pc + n) ls (.inr (.inl (w64 (x + y))) :: r) h q
  | .lsub => al2l st fun x y r => P d rc rs m (pc + n) ls (.inr (.inl (w64 (x - y))) :: r) h q
  | .lmul => al2l st fun x y r => P d rc rs m (pc + n) ls (.inr (.inl (w64 (x * y))) :: r) h q
  | .ldiv => al2l st fun x y r => y ≠ 0 ∧ P d rc rs m (pc + n) ls (.inr (.inl (w64 (Int.tdiv x y))) :: r) h q
  | .lrem => al2l st fun x y r => y ≠ 0 ∧ P d rc rs m (pc + n) ls (.inr (.inl (Int.tmod x y)) :: r) h q
  | .land => al2l st fun x y r => P d rc rs m (pc + n) ls (.inr (.inl (an64 x y)) :: r) h q
  | .lor => al2l st fun x y r => P d rc rs m (pc + n) ls (.inr (.inl (or64 x y)) :: r) h q
  | .lxor => al2l st fun x y r => P d rc rs m (pc + n) ls (.inr (.inl (xo64 x y)) :: r) h q
  | .lshl => asl st fun x y r => 0 ≤ y ∧ y < 64 ∧ P d rc rs m (pc + n) ls (.inr (.inl (w64 (x * 2 ^ y.toNat))) :: r) h q
  | .lshr => asl st fun x y r => 0 ≤ y ∧ y < 64 ∧ P d rc rs m (pc + n) ls (.inr (.inl (x / 2 ^ y.toNat)) :: r) h q
  | .lushr => asl st fun x y r => 0 ≤ y ∧ y < 64 ∧ P d rc rs m (pc + n) ls (.inr (.inl (us64 x y)) :: r) h q
  | .lcmp => al2l st fun x y r => (x < y → P d rc rs m (pc + n) ls (.inl (-1) :: r) h q) ∧ (x = y → P d rc rs m (pc + n) ls (.inl 0 :: r) h q) ∧ (y < x → P d rc rs m (pc + n) ls (.inl 1 :: r) h q)
  | .i2l => ai1 st fun x r => P d rc rs m (pc + n) ls (.inr (.inl x) :: r) h q
  | .l2i => alo st fun x r => P d rc rs m (pc + n) ls (.inl (w32 x) :: r) h q
  | .i2b => ai1 st fun x r => P d rc rs m (pc + n) ls (.inl (w8 x) :: r) h q
  | .ifCond c t => ai1 st fun x r => (iCnd c x 0 → P d rc rs m t.toNat ls r h q) ∧ (¬ iCnd c x 0 → P d rc rs m (pc + n) ls r h q)
  | .if_icmp c t => ar2 st fun x y r => (iCnd c x y → P d rc rs m t.toNat ls r h q) ∧ (¬ iCnd c x y → P d rc rs m (pc + n) ls r h q)
  | .ifnull t => are st fun a r => (a = 0 → P d rc rs m t.toNat ls r h q) ∧ (¬ a = 0 → P d rc rs m (pc + n) ls r h q)
  | .ifnonnull t => are st fun a r => (a = 0 → P d rc rs m (pc + n) ls r h q) ∧ (¬ a = 0 → P d rc rs m t.toNat ls r h q)
  | .goto t => P d rc rs m t.toNat ls st h q
  | .lookupswitch t ps => ai1 st fun x r => swt x (fun t => P d rc rs m t.toNat ls r h q) t ps.toList
  | .getfield f => are st fun a r => tg h a = ((f / 100 : Nat) : Int) ∧ P d rc rs m (pc + n) ls (mkv (fk f) (gv h a ((f % 100 : Nat) : Int)) :: r) h q
  | .putfield f => asr st fun v r => are r fun a r => tg h a = ((f / 100 : Nat) : Int) ∧ (ff f = true → mK m = 2 ∧ mC m = f / 100) ∧ isK (fk f) v fun x => P d rc rs m (pc + n) ls r (sv h a ((f % 100 : Nat) : Int) x) q
  | .iaload => ai1 st fun i r => are r fun a r => tg h a = 100 ∧ 0 ≤ i ∧ i < ln h a ∧ P d rc rs m (pc + n) ls (.inl (gv h a i) :: r) h q
  | .laload => ai1 st fun i r => are r fun a r => tg h a = 101 ∧ 0 ≤ i ∧ i < ln h a ∧ P d rc rs m (pc + n) ls (.inr (.inl (gv h a i)) :: r) h q
  | .baload => ai1 st fun i r => are r fun a r => (tg h a = 102 ∨ tg h a = 103) ∧ 0 ≤ i ∧ i < ln h a ∧ P d rc rs m (pc + n) ls (.inl (gv h a i) :: r) h q
  | .caload => ai1 st fun i r => are r fun a r => tg h a = 104 ∧ 0 ≤ i ∧ i < ln h a ∧ P d rc rs m (pc + n) ls (.inl (gv h a i) :: r) h q
  | .aaload => ai1 st fun i r => are r fun a r => (tg h a = 105 ∨ tg h a = 106) ∧ 0 ≤ i ∧ i < ln h a ∧ P d rc rs m (pc + n) ls (.inr (.inr (gv h a i)) :: r) h q
  | .iastore => ar2 st fun i x r => are r fun a r => 2 ≤ a ∧ tg h a = 100 ∧ 0 ≤ i ∧ i < ln h a ∧ P d rc rs m (pc + n) ls r (sv h a i x) q
  | .lastore => alo st fun x r => ai1 r fun i r => are r fun a r => 2 ≤ a ∧ tg h a = 101 ∧ 0 ≤ i ∧ i < ln h a ∧ P d rc rs m (pc + n) ls r (sv h a i x) q
  | .bastore => ar2 st fun i x r => are r fun a r => 2 ≤ a ∧ ((tg h a = 102 ∧ -128 ≤ x ∧ x < 128) ∨ (tg h a = 103 ∧ 0 ≤ x ∧ x ≤ 1)) ∧ 0 ≤ i ∧ i < ln h a ∧ P d rc rs m (pc + n) ls r (sv h a i x) q
  | .castore => ar2 st fun i x r => are r fun a r => 2 ≤ a ∧ tg h a = 104 ∧ 0 ≤ x ∧ x < 65536 ∧ 0 ≤ i ∧ i < ln h a ∧ P d rc rs m (pc + n) ls r (sv h a i x) q
  | .aastore => are st fun x r => ai1 r fun i r => are r fun a r => 2 ≤ a ∧ tg h a = 105 ∧ tg h x = 1 ∧ 0 ≤ i ∧ i < ln h a ∧ P d rc rs m (pc + n) ls r (sv h a i x) q
  | .arraylength => are st fun a r => 100 ≤ tg h a ∧ P d rc rs m (pc + n) ls (.inl (ln h a) :: r) h q
  | .new c => c < 13 ∧ 1 ≤ rc ∧ fN c ≤ rs ∧ P d (rc - 1) (rs - fN c) m (pc + n) ls (.inr (.inr (nx h)) :: st) (al h (c : Int) (fN c : Int)) q
  | .newarray t => ai1 st fun k r => 0 ≤ atc t ∧ 0 ≤ k ∧ 1 ≤ rc ∧ k.toNat ≤ rs ∧ P d (rc - 1) (rs - k.toNat) m (pc + n) ls (.inr (.inr (nx h)) :: r) (al h (atc t) k) q
  | .anewarray _ => ai1 st fun k r => 0 ≤ k ∧ 1 ≤ rc ∧ k.toNat ≤ rs ∧ P d (rc - 1) (rs - k.toNat) m (pc + n) ls (.inr (.inr (nx h)) :: r) (al h 105 k) q
  | .multianewarray _ _ => ar2 st fun j k r => 0 ≤ j ∧ 0 ≤ k ∧ k ≤ 65536 ∧ 1 + j.toNat ≤ rc ∧ j.toNat + j.toNat * k.toNat ≤ rs ∧ P d (rc - (1 + j.toNat)) (rs - (j.toNat + j.toNat * k.toNat)) m (pc + n) ls (.inr (.inr (nx h)) :: r) (al2 h j k) q
  | .checkcast _ => are st fun a r => 2 ≤ a ∧ tg h a = 100 ∧ P d rc rs m (pc + n) ls (.inr (.inr a) :: r) h q
  | .dup => asr st fun v r => (∀ x, v ≠ .inr (.inl x)) ∧ P d rc rs m (pc + n) ls (v :: v :: r) h q
  | .dup2 => asr st fun v r => asr r fun w r => (∀ x, v ≠ .inr (.inl x)) ∧ (∀ x, w ≠ .inr (.inl x)) ∧ P d rc rs m (pc + n) ls (v :: w :: v :: w :: r) h q
  | .pop => asr st fun v r => (∀ x, v ≠ .inr (.inl x)) ∧ P d rc rs m (pc + n) ls r h q
  | .invokestatic k => callP P k 0 n d rc rs m pc ls st h q
  | .invokevirtual k => callP P k 1 n d rc rs m pc ls st h q
  | .invokespecial k => if k = 9999 then are st fun a r => 0 < a ∧ 0 < d ∧ catS r ≤ 8 ∧ P d rc rs m (pc + n) ls r h q else callP P k 2 n d rc rs m pc ls st h q
  | .invokedynamic k => if k = 0 then are st fun a r => 2 ≤ a ∧ tg h a = 100 ∧ 0 < d ∧ catS r ≤ 8 ∧ 1 ≤ rc ∧ (ln h a).toNat ≤ rs ∧ P d (rc - 1) (rs - (ln h a).toNat) m (pc + n) ls (.inr (.inr (nx h)) :: r) (alc h a) q
      else if k = 2 then ar2 st fun x y r => 0 < d ∧ catS r ≤ 8 ∧ P d rc rs m (pc + n) ls (.inl (min x y) :: r) h q
      else if k = 3 then al2l st fun x y r => 0 < d ∧ catS r ≤ 8 ∧ P d rc rs m (pc + n) ls (.inr (.inl (max x y)) :: r) h q
      else if k = 4 then al2l st fun x y r => 0 < d ∧ catS r ≤ 8 ∧ P d rc rs m (pc + n) ls (.inr (.inl (min x y)) :: r) h q
      else ar2 st fun dp k r => are r fun b r => ai1 r fun sp r => are r fun a r => 2 ≤ a ∧ 2 ≤ b ∧ tg h a = 100 ∧ tg h b = 100 ∧ 0 ≤ sp ∧ 0 ≤ dp ∧ 0 ≤ k ∧ sp + k ≤ ln h a ∧ dp + k ≤ ln h b ∧ 0 < d ∧ catS r ≤ 8 ∧ P d rc rs m (pc + n) ls r (cp h a sp b dp k) q
  | .ireturn => ai1 st fun x r => r = [] ∧ (mR m = 1 ∨ (mR m = 4 ∧ (x = 0 ∨ x = 1))) ∧ q (some (.inl x)) h
  | .lreturn => alo st fun x r => r = [] ∧ mR m = 2 ∧ q (some (.inr (.inl x))) h
  | .areturn => are st fun x r => r = [] ∧ mR m = 3 ∧ q (some (.inr (.inr x))) h
  | .return_ => st = [] ∧ mR m = 0 ∧ q none h
  | _ => False
def pF (P : PP) : PP := fun d rc rs m pc ls st h q => match codeAt m pc with
  | some (i, n) => stp P i n d rc rs m pc ls st h q
  | none => False
def pLe (P P' : PP) : Prop := ∀ d rc rs m pc ls st h q, P d rc rs m pc ls st h q → P' d rc rs m pc ls st h q
/-- the least that is closed under steps -/
def Wp : PP := fun d rc rs m pc ls st h q => ∀ P : PP, pLe (pF P) P → P d rc rs m pc ls st h q
theorem swt_mono {x : Int} {K K' : Int → Prop} (hK : ∀ t, K t → K' t) {d : Int} : ∀ {l : List (Int × Int)}, swt x K d l → swt x K' d l
  | [], H => hK _ H
  | _ :: _, H => ⟨fun e => hK _ (H.1 e), fun e => swt_mono hK (H.2 e)⟩
theorem callP_mono {P P' : PP} (hP : pLe P P') {k kind n d rc rs m pc : Nat} {ls : List (Option PV)} {st : List PV} {h : PH} {q : PQ} (H : callP P k kind n d rc rs m pc ls st h q) : callP P' k kind n d rc rs m pc ls st h q := by
  obtain ⟨a0, a1, a2, a3, a4, a5, a6, a7, a8, q1, b1, b2⟩ := H
  exact ⟨a0, a1, a2, a3, a4, a5, a6, a7, a8, q1, hP _ _ _ _ _ _ _ _ _ b1, fun r h' hq => hP _ _ _ _ _ _ _ _ _ (b2 r h' hq)⟩
theorem ar2_mono {st : List PV} {K K' : Int → Int → List PV → Prop} (h : ∀ x y r, K x y r → K' x y r) (H : ar2 st K) : ar2 st K' := by
  unfold ar2 at *; split at H
  · exact h _ _ _ H
  · exact H.elim
theorem al2l_mono {st : List PV} {K K' : Int → Int → List PV → Prop} (h : ∀ x y r, K x y r → K' x y r) (H : al2l st K) : al2l st K' := by
  unfold al2l at *; split at H
  · exact h _ _ _ H
  · exact H.elim
theorem asl_mono {st : List PV} {K K' : Int → Int → List PV → Prop} (h : ∀ x y r, K x y r → K' x y r) (H : asl st K) : asl st K' := by
  unfold asl at *; split at H
  · exact h _ _ _ H
  · exact H.elim
theorem ai1_mono {st : List PV} {K K' : Int → List PV → Prop} (h : ∀ x r, K x r → K' x r) (H : ai1 st K) : ai1 st K' := by
  unfold ai1 at *; split at H
  · exact h _ _ H
  · exact H.elim
theorem alo_mono {st : List PV} {K K' : Int → List PV → Prop} (h : ∀ x r, K x r → K' x r) (H : alo st K) : alo st K' := by
  unfold alo at *; split at H
  · exact h _ _ H
  · exact H.elim
theorem are_mono {st : List PV} {K K' : Int → List PV → Prop} (h : ∀ x r, K x r → K' x r) (H : are st K) : are st K' := by
  unfold are at *; split at H
  · exact h _ _ H
  · exact H.elim
theorem asr_mono {st : List PV} {K K' : PV → List PV → Prop} (h : ∀ x r, K x r → K' x r) (H : asr st K) : asr st K' := by
  unfold asr at *; split at H
  · exact h _ _ H
  · exact H.elim
theorem lod_mono {ls : List (Option PV)} {k : Nat} {K K' : PV → Prop} (h : ∀ x, K x → K' x) (H : lod ls k K) : lod ls k K' := by
  unfold lod at *; split at H
  · exact h _ H
  · exact H.elim
theorem isI_mono {v : PV} {K K' : Int → Prop} (h : ∀ x, K x → K' x) (H : isI v K) : isI v K' := by
  unfold isI at *; split at H
  · exact h _ H
  · exact H.elim
theorem isL_mono {v : PV} {K K' : Int → Prop} (h : ∀ x, K x → K' x) (H : isL v K) : isL v K' := by
  unfold isL at *; split at H
  · exact h _ H
  · exact H.elim
theorem isR_mono {v : PV} {K K' : Int → Prop} (h : ∀ x, K x → K' x) (H : isR v K) : isR v K' := by
  unfold isR at *; split at H
  · exact h _ H
  · exact H.elim
theorem isK_mono {k : Nat} {v : PV} {K K' : Int → Prop} (h : ∀ x, K x → K' x) (H : isK k v K) : isK k v K' := by
  unfold isK at *; split at H
  · exact isI_mono h H
  · exact isL_mono h H
  · exact isR_mono h H
  · exact isI_mono (fun x hx => ⟨hx.1, h x hx.2⟩) H
  · exact H.elim
set_option maxHeartbeats 4000000 in
theorem stp_mono {P P' : PP} (hP : pLe P P') {i : Instr} {n d rc rs m pc : Nat} {ls : List (Option PV)} {st : List PV} {h : PH} {q : PQ} (H : stp P i n d rc rs m pc ls st h q) : stp P' i n d rc rs m pc ls st h q := by
  have hP' : ∀ {d rc rs m pc ls st h q}, P d rc rs m pc ls st h q → P' d rc rs m pc ls st h q := fun z => hP _ _ _ _ _ _ _ _ _ z
  cases i
  case invokespecial k =>
    simp only [stp] at H ⊢
    split at H
    · rw [if_pos (by assumption)]; exact are_mono (fun _ _ z => ⟨z.1, z.2.1, z.2.2.1, hP' z.2.2.2⟩) H
    · rw [if_neg (by assumption)]; exact callP_mono hP H
  case invokedynamic k =>
    simp only [stp] at H ⊢
    split at H
    · rw [if_pos (by assumption)]; exact are_mono (fun _ _ z => ⟨z.1, z.2.1, z.2.2.1, z.2.2.2.1, z.2.2.2.2.1, z.2.2.2.2.2.1, hP' z.2.2.2.2.2.2⟩) H
    rw [if_neg (by assumption)]
    split at H
    · rw [if_pos (by assumption)]; exact ar2_mono (fun _ _ _ z => ⟨z.1, z.2.1, hP' z.2.2⟩) H
    rw [if_neg (by assumption)]
    split at H
    · rw [if_pos (by assumption)]; exact al2l_mono (fun _ _ _ z => ⟨z.1, z.2.1, hP' z.2.2⟩) H
    rw [if_neg (by assumption)]
    split at H
    · rw [if_pos (by assumption)]; exact al2l_mono (fun _ _ _ z => ⟨z.1, z.2.1, hP' z.2.2⟩) H
    · rw [if_neg (by assumption)]
      exact ar2_mono (fun _ _ _ => are_mono fun _ _ => ai1_mono fun _ _ => are_mono fun _ _ ⟨z1, z2, z3, z4, z5, z6, z7, z8, z9, z10, z11, z12⟩ => ⟨z1, z2, z3, z4, z5, z6, z7, z8, z9, z10, z11, hP' z12⟩) H
  case anewarray k =>
    simp only [stp] at H ⊢
    exact ai1_mono (fun _ _ z => ⟨z.1, z.2.1, z.2.2.1, hP' z.2.2.2⟩) H
  case castore =>
    simp only [stp] at H ⊢
    exact ar2_mono (fun _ _ _ => are_mono fun _ _ z => ⟨z.1, z.2.1, z.2.2.1, z.2.2.2.1, z.2.2.2.2.1, z.2.2.2.2.2.1, hP' z.2.2.2.2.2.2⟩) H
  all_goals first
    | exact hP' H
    | exact H
    | exact H.elim
    | exact callP_mono hP H
    | exact ar2_mono (fun _ _ _ z => hP' z) H
    | exact al2l_mono (fun _ _ _ z => hP' z) H
    | exact ai1_mono (fun _ _ z => hP' z) H
    | exact alo_mono (fun _ _ z => hP' z) H
    | exact ai1_mono (fun _ _ z => ⟨z.1, hP' z.2⟩) H
    | exact alo_mono (fun _ _ z => ⟨z.1, hP' z.2⟩) H
    | exact are_mono (fun _ _ z => ⟨z.1, hP' z.2⟩) H
    | exact ar2_mono (fun _ _ _ z => ⟨z.1, hP' z.2⟩) H
    | exact al2l_mono (fun _ _ _ z => ⟨z.1, hP' z.2⟩) H
    | exact ar2_mono (fun _ _ _ z => ⟨z.1, z.2.1, hP' z.2.2⟩) H
    | exact asl_mono (fun _ _ _ z => ⟨z.1, z.2.1, hP' z.2.2⟩) H
    | exact are_mono (fun _ _ z => ⟨z.1, z.2.1, hP' z.2.2⟩) H
    | exact lod_mono (fun _ => isI_mono fun _ z => hP' z) H
    | exact lod_mono (fun _ => isL_mono fun _ z => hP' z) H
    | exact lod_mono (fun _ => isR_mono fun _ z => hP' z) H
    | exact al2l_mono (fun _ _ _ z => ⟨fun e => hP' (z.1 e), fun e => hP' (z.2.1 e), fun e => hP' (z.2.2 e)⟩) H
    | exact ar2_mono (fun _ _ _ z => ⟨fun e => hP' (z.1 e), fun e => hP' (z.2 e)⟩) H
    | exact ai1_mono (fun _ _ z => ⟨fun e => hP' (z.1 e), fun e => hP' (z.2 e)⟩) H
    | exact are_mono (fun _ _ z => ⟨fun e => hP' (z.1 e), fun e => hP' (z.2 e)⟩) H
    | exact ai1_mono (fun _ _ => swt_mono fun _ z => hP' z) H
    | exact asr_mono (fun _ _ => are_mono fun _ _ z => ⟨z.1, z.2.1, isK_mono (fun _ w => hP' w) z.2.2⟩) H
    | exact ai1_mono (fun _ _ => are_mono fun _ _ ⟨z1, z2, z3, z4⟩ => ⟨z1, z2, z3, hP' z4⟩) H
    | exact ar2_mono (fun _ _ _ => are_mono fun _ _ ⟨z1, z2, z3, z4, z5⟩ => ⟨z1, z2, z3, z4, hP' z5⟩) H
    | exact alo_mono (fun _ _ => ai1_mono fun _ _ => are_mono fun _ _ ⟨z1, z2, z3, z4, z5⟩ => ⟨z1, z2, z3, z4, hP' z5⟩) H
    | exact ar2_mono (fun _ _ _ => are_mono fun _ _ ⟨z1, z2, z3, z4, z5, z6, z7⟩ => ⟨z1, z2, z3, z4, z5, z6, hP' z7⟩) H
    | exact are_mono (fun _ _ => ai1_mono fun _ _ => are_mono fun _ _ ⟨z1, z2, z3, z4, z5, z6⟩ => ⟨z1, z2, z3, z4, z5, hP' z6⟩) H
    | exact ⟨H.1, H.2.1, H.2.2.1, hP' H.2.2.2⟩
    | exact ai1_mono (fun _ _ ⟨z1, z2, z3, z4, z5⟩ => ⟨z1, z2, z3, z4, hP' z5⟩) H
    | exact ai1_mono (fun _ _ ⟨z1, z2, z3, z4⟩ => ⟨z1, z2, z3, hP' z4⟩) H
    | exact ar2_mono (fun _ _ _ ⟨z1, z2, z3, z4, z5, z6⟩ => ⟨z1, z2, z3, z4, z5, hP' z6⟩) H
    | exact asr_mono (fun _ _ z => ⟨z.1, hP' z.2⟩) H
    | exact asr_mono (fun _ _ => asr_mono fun _ _ z => ⟨z.1, z.2.1, hP' z.2.2⟩) H
theorem pF_mono {P P' : PP} (hP : pLe P P') : pLe (pF P) (pF P') := by
  intro d rc rs m pc ls st h q H
  unfold pF at *
  cases hc : codeAt m pc with
  | none => rw [hc] at H; exact H.elim
  | some x => rw [hc] at H; exact stp_mono hP H
theorem Wp_le {P : PP} (hc : pLe (pF P) P) : pLe Wp P := fun _ _ _ _ _ _ _ _ _ H => H P hc
theorem Wp_fold {d rc rs m pc : Nat} {ls : List (Option PV)} {st : List PV} {h : PH} {q : PQ} (H : pF Wp d rc rs m pc ls st h q) : Wp d rc rs m pc ls st h q :=
  fun _ hc => hc _ _ _ _ _ _ _ _ _ (pF_mono (Wp_le hc) _ _ _ _ _ _ _ _ _ H)
theorem Wp_step {d rc rs m pc n : Nat} {i : Instr} {ls : List (Option PV)} {st : List PV} {h : PH} {q : PQ} (hc : codeAt m pc = some (i, n)) (H : stp Wp i n d rc rs m pc ls st h q) : Wp d rc rs m pc ls st h q :=
  Wp_fold (by unfold pF; rw [hc]; exact H)
theorem Wp_un {d rc rs m pc : Nat} {ls : List (Option PV)} {st : List PV} {h : PH} {q : PQ} (H : Wp d rc rs m pc ls st h q) : pF Wp d rc rs m pc ls st h q :=
  H (pF Wp) (pF_mono (fun _ _ _ _ _ _ _ _ _ z => Wp_fold z))
