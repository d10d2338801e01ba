/-! READING THE PURE MACHINE: a row a step -/
section OPS
variable {d rc rs m pc : Nat} {ls : List (Option PV)} {st r : List PV} {h : PH} {q : PQ}
theorem p_const {n : Nat} {k : Int} (pc' : Nat) (hc : codeAt m pc = some (.bipush k, n)) (hp : pc + n = pc')  (K : Wp d rc rs m pc' ls (.inl k :: st) h q) : Wp d rc rs m pc ls (st) h q := by
  subst hp
  exact Wp_step hc K
theorem p_lconst {n : Nat} {k : Int} (pc' : Nat) (hc : codeAt m pc = some (.sipush k, n)) (hp : pc + n = pc')  (K : Wp d rc rs m pc' ls (.inr (.inl k) :: st) h q) : Wp d rc rs m pc ls (st) h q := by
  subst hp
  exact Wp_step hc K
theorem p_null {n : Nat} (pc' : Nat) (hc : codeAt m pc = some (.aconst_null, n)) (hp : pc + n = pc')  (K : Wp d rc rs m pc' ls (.inr (.inr 0) :: st) h q) : Wp d rc rs m pc ls (st) h q := by
  subst hp
  exact Wp_step hc K
theorem p_iload {n k : Nat} {x : Int} (pc' : Nat) (hc : codeAt m pc = some (.iload k, n)) (hp : pc + n = pc') (hx : ls[k]? = some (some (.inl x))) (K : Wp d rc rs m pc' ls (.inl x :: st) h q) : Wp d rc rs m pc ls (st) h q := by
  subst hp
  exact Wp_step hc (by show lod _ _ _; unfold lod; rw [hx]; exact K)
theorem p_lload {n k : Nat} {x : Int} (pc' : Nat) (hc : codeAt m pc = some (.lload k, n)) (hp : pc + n = pc') (hx : ls[k]? = some (some (.inr (.inl x)))) (K : Wp d rc rs m pc' ls (.inr (.inl x) :: st) h q) : Wp d rc rs m pc ls (st) h q := by
  subst hp
  exact Wp_step hc (by show lod _ _ _; unfold lod; rw [hx]; exact K)
theorem p_aload {n k : Nat} {x : Int} (pc' : Nat) (hc : codeAt m pc = some (.aload k, n)) (hp : pc + n = pc') (hx : ls[k]? = some (some (.inr (.inr x)))) (K : Wp d rc rs m pc' ls (.inr (.inr x) :: st) h q) : Wp d rc rs m pc ls (st) h q := by
  subst hp
  exact Wp_step hc (by show lod _ _ _; unfold lod; rw [hx]; exact K)
theorem p_istore {n k : Nat} {x : Int} {ls' : List (Option PV)} (pc' : Nat) (hc : codeAt m pc = some (.istore k, n)) (hp : pc + n = pc') (hk : k < ls.length) (hl : st1 ls k (.inl x) = ls') (K : Wp d rc rs m pc' ls' (st) h q) : Wp d rc rs m pc ls (.inl x :: st) h q := by
  subst hp
  subst hl; exact Wp_step hc ⟨hk, K⟩
theorem p_astore {n k : Nat} {x : Int} {ls' : List (Option PV)} (pc' : Nat) (hc : codeAt m pc = some (.astore k, n)) (hp : pc + n = pc') (hk : k < ls.length) (hl : st1 ls k (.inr (.inr x)) = ls') (K : Wp d rc rs m pc' ls' (st) h q) : Wp d rc rs m pc ls (.inr (.inr x) :: st) h q := by
  subst hp
  subst hl; exact Wp_step hc ⟨hk, K⟩
theorem p_lstore {n k : Nat} {x : Int} {ls' : List (Option PV)} (pc' : Nat) (hc : codeAt m pc = some (.lstore k, n)) (hp : pc + n = pc') (hk : k + 1 < ls.length) (hl : st2 ls k x = ls') (K : Wp d rc rs m pc' ls' (st) h q) : Wp d rc rs m pc ls (.inr (.inl x) :: st) h q := by
  subst hp
  subst hl; exact Wp_step hc ⟨hk, K⟩
theorem p_iinc {n k : Nat} {c x y : Int} {ls' : List (Option PV)} (pc' : Nat) (hc : codeAt m pc = some (.iinc k c, n)) (hp : pc + n = pc') (hx : ls[k]? = some (some (.inl x))) (hy : w32 (x + c) = y) (hl : st1 ls k (.inl y) = ls') (K : Wp d rc rs m pc' ls' (st) h q) : Wp d rc rs m pc ls (st) h q := by
  subst hp
  subst hl; subst hy; exact Wp_step hc (by show lod _ _ _; unfold lod; rw [hx]; exact K)
theorem p_iadd {n : Nat} {x y z : Int} (pc' : Nat) (hc : codeAt m pc = some (.iadd, n)) (hp : pc + n = pc')  (hz : w32 (x + y) = z) (K : Wp d rc rs m pc' ls (.inl z :: st) h q) : Wp d rc rs m pc ls (.inl y :: .inl x :: st) h q := by
  subst hp
  subst hz; exact Wp_step hc K
theorem p_isub {n : Nat} {x y z : Int} (pc' : Nat) (hc : codeAt m pc = some (.isub, n)) (hp : pc + n = pc')  (hz : w32 (x - y) = z) (K : Wp d rc rs m pc' ls (.inl z :: st) h q) : Wp d rc rs m pc ls (.inl y :: .inl x :: st) h q := by
  subst hp
  subst hz; exact Wp_step hc K
theorem p_imul {n : Nat} {x y z : Int} (pc' : Nat) (hc : codeAt m pc = some (.imul, n)) (hp : pc + n = pc')  (hz : w32 (x * y) = z) (K : Wp d rc rs m pc' ls (.inl z :: st) h q) : Wp d rc rs m pc ls (.inl y :: .inl x :: st) h q := by
  subst hp
  subst hz; exact Wp_step hc K
theorem p_iand {n : Nat} {x y z : Int} (pc' : Nat) (hc : codeAt m pc = some (.iand, n)) (hp : pc + n = pc')  (hz : an32 x y = z) (K : Wp d rc rs m pc' ls (.inl z :: st) h q) : Wp d rc rs m pc ls (.inl y :: .inl x :: st) h q := by
  subst hp
  subst hz; exact Wp_step hc K
theorem p_ior {n : Nat} {x y z : Int} (pc' : Nat) (hc : codeAt m pc = some (.ior, n)) (hp : pc + n = pc')  (hz : or32 x y = z) (K : Wp d rc rs m pc' ls (.inl z :: st) h q) : Wp d rc rs m pc ls (.inl y :: .inl x :: st) h q := by
  subst hp
  subst hz; exact Wp_step hc K
theorem p_ladd {n : Nat} {x y z : Int} (pc' : Nat) (hc : codeAt m pc = some (.ladd, n)) (hp : pc + n = pc')  (hz : w64 (x + y) = z) (K : Wp d rc rs m pc' ls (.inr (.inl z) :: st) h q) : Wp d rc rs m pc ls (.inr (.inl y) :: .inr (.inl x) :: st) h q := by
  subst hp
  subst hz; exact Wp_step hc K
theorem p_lsub {n : Nat} {x y z : Int} (pc' : Nat) (hc : codeAt m pc = some (.lsub, n)) (hp : pc + n = pc')  (hz : w64 (x - y) = z) (K : Wp d rc rs m pc' ls (.inr (.inl z) :: st) h q) : Wp d rc rs m pc ls (.inr (.inl y) :: .inr (.inl x) :: st) h q := by
  subst hp
  subst hz; exact Wp_step hc K
theorem p_lmul {n : Nat} {x y z : Int} (pc' : Nat) (hc : codeAt m pc = some (.lmul, n)) (hp : pc + n = pc')  (hz : w64 (x * y) = z) (K : Wp d rc rs m pc' ls (.inr (.inl z) :: st) h q) : Wp d rc rs m pc ls (.inr (.inl y) :: .inr (.inl x) :: st) h q := by
  subst hp
  subst hz; exact Wp_step hc K
theorem p_land {n : Nat} {x y z : Int} (pc' : Nat) (hc : codeAt m pc = some (.land, n)) (hp : pc + n = pc')  (hz : an64 x y = z) (K : Wp d rc rs m pc' ls (.inr (.inl z) :: st) h q) : Wp d rc rs m pc ls (.inr (.inl y) :: .inr (.inl x) :: st) h q := by
  subst hp
  subst hz; exact Wp_step hc K
theorem p_lor {n : Nat} {x y z : Int} (pc' : Nat) (hc : codeAt m pc = some (.lor, n)) (hp : pc + n = pc')  (hz : or64 x y = z) (K : Wp d rc rs m pc' ls (.inr (.inl z) :: st) h q) : Wp d rc rs m pc ls (.inr (.inl y) :: .inr (.inl x) :: st) h q := by
  subst hp
  subst hz; exact Wp_step hc K
theorem p_lxor {n : Nat} {x y z : Int} (pc' : Nat) (hc : codeAt m pc = some (.lxor, n)) (hp : pc + n = pc')  (hz : xo64 x y = z) (K : Wp d rc rs m pc' ls (.inr (.inl z) :: st) h q) : Wp d rc rs m pc ls (.inr (.inl y) :: .inr (.inl x) :: st) h q := by
  subst hp
  subst hz; exact Wp_step hc K
theorem p_idiv {n : Nat} {x y z : Int} (pc' : Nat) (hc : codeAt m pc = some (.idiv, n)) (hp : pc + n = pc') (hy : y ≠ 0) (hz : w32 (Int.tdiv x y) = z) (K : Wp d rc rs m pc' ls (.inl z :: st) h q) : Wp d rc rs m pc ls (.inl y :: .inl x :: st) h q := by
  subst hp
  subst hz; exact Wp_step hc ⟨hy, K⟩
theorem p_irem {n : Nat} {x y z : Int} (pc' : Nat) (hc : codeAt m pc = some (.irem, n)) (hp : pc + n = pc') (hy : y ≠ 0) (hz : Int.tmod x y = z) (K : Wp d rc rs m pc' ls (.inl z :: st) h q) : Wp d rc rs m pc ls (.inl y :: .inl x :: st) h q := by
  subst hp
  subst hz; exact Wp_step hc ⟨hy, K⟩
theorem p_ldiv {n : Nat} {x y z : Int} (pc' : Nat) (hc : codeAt m pc = some (.ldiv, n)) (hp : pc + n = pc') (hy : y ≠ 0) (hz : w64 (Int.tdiv x y) = z) (K : Wp d rc rs m pc' ls (.inr (.inl z) :: st) h q) : Wp d rc rs m pc ls (.inr (.inl y) :: .inr (.inl x) :: st) h q := by
  subst hp
  subst hz; exact Wp_step hc ⟨hy, K⟩
theorem p_lrem {n : Nat} {x y z : Int} (pc' : Nat) (hc : codeAt m pc = some (.lrem, n)) (hp : pc + n = pc') (hy : y ≠ 0) (hz : Int.tmod x y = z) (K : Wp d rc rs m pc' ls (.inr (.inl z) :: st) h q) : Wp d rc rs m pc ls (.inr (.inl y) :: .inr (.inl x) :: st) h q := by
  subst hp
  subst hz; exact Wp_step hc ⟨hy, K⟩
theorem p_ishl {n : Nat} {x y z : Int} (pc' : Nat) (hc : codeAt m pc = some (.ishl, n)) (hp : pc + n = pc') (h0 : 0 ≤ y) (h1 : y < 32) (hz : w32 (x * 2 ^ y.toNat) = z) (K : Wp d rc rs m pc' ls (.inl z :: st) h q) : Wp d rc rs m pc ls (.inl y :: .inl x :: st) h q := by
  subst hp
  subst hz; exact Wp_step hc ⟨h0, h1, K⟩
theorem p_ishr {n : Nat} {x y z : Int} (pc' : Nat) (hc : codeAt m pc = some (.ishr, n)) (hp : pc + n = pc') (h0 : 0 ≤ y) (h1 : y < 32) (hz : x / 2 ^ y.toNat = z) (K : Wp d rc rs m pc' ls (.inl z :: st) h q) : Wp d rc rs m pc ls (.inl y :: .inl x :: st) h q := by
  subst hp
  subst hz; exact Wp_step hc ⟨h0, h1, K⟩
theorem p_iushr {n : Nat} {x y z : Int} (pc' : Nat) (hc : codeAt m pc = some (.iushr, n)) (hp : pc + n = pc') (h0 : 0 ≤ y) (h1 : y < 32) (hz : us32 x y = z) (K : Wp d rc rs m pc' ls (.inl z :: st) h q) : Wp d rc rs m pc ls (.inl y :: .inl x :: st) h q := by
  subst hp
  subst hz; exact Wp_step hc ⟨h0, h1, K⟩
theorem p_lshl {n : Nat} {x y z : Int} (pc' : Nat) (hc : codeAt m pc = some (.lshl, n)) (hp : pc + n = pc') (h0 : 0 ≤ y) (h1 : y < 64) (hz : w64 (x * 2 ^ y.toNat) = z) (K : Wp d rc rs m pc' ls (.inr (.inl z) :: st) h q) : Wp d rc rs m pc ls (.inl y :: .inr (.inl x) :: st) h q := by
  subst hp
  subst hz; exact Wp_step hc ⟨h0, h1, K⟩
theorem p_lshr {n : Nat} {x y z : Int} (pc' : Nat) (hc : codeAt m pc = some (.lshr, n)) (hp : pc + n = pc') (h0 : 0 ≤ y) (h1 : y < 64) (hz : x / 2 ^ y.toNat = z) (K : Wp d rc rs m pc' ls (.inr (.inl z) :: st) h q) : Wp d rc rs m pc ls (.inl y :: .inr (.inl x) :: st) h q := by
  subst hp
  subst hz; exact Wp_step hc ⟨h0, h1, K⟩
theorem p_lushr {n : Nat} {x y z : Int} (pc' : Nat) (hc : codeAt m pc = some (.lushr, n)) (hp : pc + n = pc') (h0 : 0 ≤ y) (h1 : y < 64) (hz : us64 x y = z) (K : Wp d rc rs m pc' ls (.inr (.inl z) :: st) h q) : Wp d rc rs m pc ls (.inl y :: .inr (.inl x) :: st) h q := by
  subst hp
  subst hz; exact Wp_step hc ⟨h0, h1, K⟩
theorem p_i2l {n : Nat} {x : Int} (pc' : Nat) (hc : codeAt m pc = some (.i2l, n)) (hp : pc + n = pc')  (K : Wp d rc rs m pc' ls (.inr (.inl x) :: st) h q) : Wp d rc rs m pc ls (.inl x :: st) h q := by
  subst hp
  exact Wp_step hc K
theorem p_l2i {n : Nat} {x z : Int} (pc' : Nat) (hc : codeAt m pc = some (.l2i, n)) (hp : pc + n = pc') (hz : w32 x = z) (K : Wp d rc rs m pc' ls (.inl z :: st) h q) : Wp d rc rs m pc ls (.inr (.inl x) :: st) h q := by
  subst hp
  subst hz; exact Wp_step hc K
theorem p_i2b {n : Nat} {x z : Int} (pc' : Nat) (hc : codeAt m pc = some (.i2b, n)) (hp : pc + n = pc') (hz : w8 x = z) (K : Wp d rc rs m pc' ls (.inl z :: st) h q) : Wp d rc rs m pc ls (.inl x :: st) h q := by
  subst hp
  subst hz; exact Wp_step hc K
theorem p_dup {n : Nat} {v : PV} (pc' : Nat) (hc : codeAt m pc = some (.dup, n)) (hp : pc + n = pc') (hv : ∀ x, v ≠ .inr (.inl x)) (K : Wp d rc rs m pc' ls (v :: v :: st) h q) : Wp d rc rs m pc ls (v :: st) h q := by
  subst hp
  exact Wp_step hc ⟨hv, K⟩
theorem p_dup2 {n : Nat} {v w : PV} (pc' : Nat) (hc : codeAt m pc = some (.dup2, n)) (hp : pc + n = pc') (hv : ∀ x, v ≠ .inr (.inl x)) (hw : ∀ x, w ≠ .inr (.inl x)) (K : Wp d rc rs m pc' ls (v :: w :: v :: w :: st) h q) : Wp d rc rs m pc ls (v :: w :: st) h q := by
  subst hp
  exact Wp_step hc ⟨hv, hw, K⟩
theorem p_pop {n : Nat} {v : PV} (pc' : Nat) (hc : codeAt m pc = some (.pop, n)) (hp : pc + n = pc') (hv : ∀ x, v ≠ .inr (.inl x)) (K : Wp d rc rs m pc' ls (st) h q) : Wp d rc rs m pc ls (v :: st) h q := by
  subst hp
  exact Wp_step hc ⟨hv, K⟩
theorem nl_i {y : Int} : ∀ x, (.inl y : PV) ≠ .inr (.inl x) := fun _ e => by cases e
theorem nl_r {y : Int} : ∀ x, (.inr (.inr y) : PV) ≠ .inr (.inl x) := fun _ e => by cases e
theorem p_nmi {x : Int} (K : ∀ y, y = x → Wp d rc rs m pc ls (.inl y :: st) h q) : Wp d rc rs m pc ls (.inl x :: st) h q := K x rfl
theorem p_nml {x : Int} (K : ∀ y, y = x → Wp d rc rs m pc ls (.inr (.inl y) :: st) h q) : Wp d rc rs m pc ls (.inr (.inl x) :: st) h q := K x rfl
theorem p_nmh {h1 : PH} (K : ∀ h', h' = h1 → Wp d rc rs m pc ls st h' q) : Wp d rc rs m pc ls st h1 q := K h1 rfl
theorem p_ic_eq {n : Nat} {x y : Int} {t : Int} (pc' tg' : Nat) (hc : codeAt m pc = some (.if_icmp .eq t, n)) (hp : pc + n = pc') (ht : t.toNat = tg') (K1 : x = y → Wp d rc rs m tg' ls st h q) (K2 : ¬ x = y → Wp d rc rs m pc' ls st h q) : Wp d rc rs m pc ls (.inl y :: .inl x :: st) h q := by
  subst hp; subst ht
  exact Wp_step hc ⟨fun z => K1 ((fun z => z) z), fun z => K2 ((fun z => z) z)⟩
theorem p_ic_eq_t {n : Nat} {x y : Int} {t : Int} (tg' : Nat) (hc : codeAt m pc = some (.if_icmp .eq t, n)) (ht : t.toNat = tg') (hx : x = y) (K1 : Wp d rc rs m tg' ls st h q) : Wp d rc rs m pc ls (.inl y :: .inl x :: st) h q := p_ic_eq _ _ hc rfl ht (fun _ => K1) (fun z => by omega)
theorem p_ic_eq_f {n : Nat} {x y : Int} {t : Int} (pc' : Nat) (hc : codeAt m pc = some (.if_icmp .eq t, n)) (hp : pc + n = pc') (hx : ¬ x = y) (K2 : Wp d rc rs m pc' ls st h q) : Wp d rc rs m pc ls (.inl y :: .inl x :: st) h q := p_ic_eq _ _ hc hp rfl (fun z => by omega) (fun _ => K2)
theorem p_if_eq {n : Nat} {x : Int} {t : Int} (pc' tg' : Nat) (hc : codeAt m pc = some (.ifCond .eq t, n)) (hp : pc + n = pc') (ht : t.toNat = tg') (K1 : x = 0 → Wp d rc rs m tg' ls st h q) (K2 : ¬ x = 0 → Wp d rc rs m pc' ls st h q) : Wp d rc rs m pc ls (.inl x :: st) h q := by
  subst hp; subst ht
  exact Wp_step hc ⟨fun z => K1 ((fun z => z) z), fun z => K2 ((fun z => z) z)⟩
theorem p_if_eq_t {n : Nat} {x : Int} {t : Int} (tg' : Nat) (hc : codeAt m pc = some (.ifCond .eq t, n)) (ht : t.toNat = tg') (hx : x = 0) (K1 : Wp d rc rs m tg' ls st h q) : Wp d rc rs m pc ls (.inl x :: st) h q := p_if_eq _ _ hc rfl ht (fun _ => K1) (fun z => by omega)
theorem p_if_eq_f {n : Nat} {x : Int} {t : Int} (pc' : Nat) (hc : codeAt m pc = some (.ifCond .eq t, n)) (hp : pc + n = pc') (hx : ¬ x = 0) (K2 : Wp d rc rs m pc' ls st h q) : Wp d rc rs m pc ls (.inl x :: st) h q := p_if_eq _ _ hc hp rfl (fun z => by omega) (fun _ => K2)
theorem p_ic_ne {n : Nat} {x y : Int} {t : Int} (pc' tg' : Nat) (hc : codeAt m pc = some (.if_icmp .ne t, n)) (hp : pc + n = pc') (ht : t.toNat = tg') (K1 : ¬ x = y → Wp d rc rs m tg' ls st h q) (K2 : x = y → Wp d rc rs m pc' ls st h q) : Wp d rc rs m pc ls (.inl y :: .inl x :: st) h q := by
  subst hp; subst ht
  exact Wp_step hc ⟨fun z => K1 ((fun z => z) z), fun z => K2 ((fun z => Decidable.not_not.mp z) z)⟩
theorem p_ic_ne_t {n : Nat} {x y : Int} {t : Int} (tg' : Nat) (hc : codeAt m pc = some (.if_icmp .ne t, n)) (ht : t.toNat = tg') (hx : ¬ x = y) (K1 : Wp d rc rs m tg' ls st h q) : Wp d rc rs m pc ls (.inl y :: .inl x :: st) h q := p_ic_ne _ _ hc rfl ht (fun _ => K1) (fun z => by omega)
theorem p_ic_ne_f {n : Nat} {x y : Int} {t : Int} (pc' : Nat) (hc : codeAt m pc = some (.if_icmp .ne t, n)) (hp : pc + n = pc') (hx : x = y) (K2 : Wp d rc rs m pc' ls st h q) : Wp d rc rs m pc ls (.inl y :: .inl x :: st) h q := p_ic_ne _ _ hc hp rfl (fun z => by omega) (fun _ => K2)
theorem p_if_ne {n : Nat} {x : Int} {t : Int} (pc' tg' : Nat) (hc : codeAt m pc = some (.ifCond .ne t, n)) (hp : pc + n = pc') (ht : t.toNat = tg') (K1 : ¬ x = 0 → Wp d rc rs m tg' ls st h q) (K2 : x = 0 → Wp d rc rs m pc' ls st h q) : Wp d rc rs m pc ls (.inl x :: st) h q := by
  subst hp; subst ht
  exact Wp_step hc ⟨fun z => K1 ((fun z => z) z), fun z => K2 ((fun z => Decidable.not_not.mp z) z)⟩
theorem p_if_ne_t {n : Nat} {x : Int} {t : Int} (tg' : Nat) (hc : codeAt m pc = some (.ifCond .ne t, n)) (ht : t.toNat = tg') (hx : ¬ x = 0) (K1 : Wp d rc rs m tg' ls st h q) : Wp d rc rs m pc ls (.inl x :: st) h q := p_if_ne _ _ hc rfl ht (fun _ => K1) (fun z => by omega)
theorem p_if_ne_f {n : Nat} {x : Int} {t : Int} (pc' : Nat) (hc : codeAt m pc = some (.ifCond .ne t, n)) (hp : pc + n = pc') (hx : x = 0) (K2 : Wp d rc rs m pc' ls st h q) : Wp d rc rs m pc ls (.inl x :: st) h q := p_if_ne _ _ hc hp rfl (fun z => by omega) (fun _ => K2)
theorem p_ic_lt {n : Nat} {x y : Int} {t : Int} (pc' tg' : Nat) (hc : codeAt m pc = some (.if_icmp .lt t, n)) (hp : pc + n = pc') (ht : t.toNat = tg') (K1 : x < y → Wp d rc rs m tg' ls st h q) (K2 : y ≤ x → Wp d rc rs m pc' ls st h q) : Wp d rc rs m pc ls (.inl y :: .inl x :: st) h q := by
  subst hp; subst ht
  exact Wp_step hc ⟨fun z => K1 ((fun z => z) z), fun z => K2 ((fun z => Int.not_lt.mp z) z)⟩
theorem p_ic_lt_t {n : Nat} {x y : Int} {t : Int} (tg' : Nat) (hc : codeAt m pc = some (.if_icmp .lt t, n)) (ht : t.toNat = tg') (hx : x < y) (K1 : Wp d rc rs m tg' ls st h q) : Wp d rc rs m pc ls (.inl y :: .inl x :: st) h q := p_ic_lt _ _ hc rfl ht (fun _ => K1) (fun z => by omega)
theorem p_ic_lt_f {n : Nat} {x y : Int} {t : Int} (pc' : Nat) (hc : codeAt m pc = some (.if_icmp .lt t, n)) (hp : pc + n = pc') (hx : y ≤ x) (K2 : Wp d rc rs m pc' ls st h q) : Wp d rc rs m pc ls (.inl y :: .inl x :: st) h q := p_ic_lt _ _ hc hp rfl (fun z => by omega) (fun _ => K2)
theorem p_if_lt {n : Nat} {x : Int} {t : Int} (pc' tg' : Nat) (hc : codeAt m pc = some (.ifCond .lt t, n)) (hp : pc + n = pc') (ht : t.toNat = tg') (K1 : x < 0 → Wp d rc rs m tg' ls st h q) (K2 : 0 ≤ x → Wp d rc rs m pc' ls st h q) : Wp d rc rs m pc ls (.inl x :: st) h q := by
  subst hp; subst ht
  exact Wp_step hc ⟨fun z => K1 ((fun z => z) z), fun z => K2 ((fun z => Int.not_lt.mp z) z)⟩
theorem p_if_lt_t {n : Nat} {x : Int} {t : Int} (tg' : Nat) (hc : codeAt m pc = some (.ifCond .lt t, n)) (ht : t.toNat = tg') (hx : x < 0) (K1 : Wp d rc rs m tg' ls st h q) : Wp d rc rs m pc ls (.inl x :: st) h q := p_if_lt _ _ hc rfl ht (fun _ => K1) (fun z => by omega)
theorem p_if_lt_f {n : Nat} {x : Int} {t : Int} (pc' : Nat) (hc : codeAt m pc = some (.ifCond .lt t, n)) (hp : pc + n = pc') (hx : 0 ≤ x) (K2 : Wp d rc rs m pc' ls st h q) : Wp d rc rs m pc ls (.inl x :: st) h q := p_if_lt _ _ hc hp rfl (fun z => by omega) (fun _ => K2)
theorem p_ic_ge {n : Nat} {x y : Int} {t : Int} (pc' tg' : Nat) (hc : codeAt m pc = some (.if_icmp .ge t, n)) (hp : pc + n = pc') (ht : t.toNat = tg') (K1 : y ≤ x → Wp d rc rs m tg' ls st h q) (K2 : x < y → Wp d rc rs m pc' ls st h q) : Wp d rc rs m pc ls (.inl y :: .inl x :: st) h q := by
  subst hp; subst ht
  exact Wp_step hc ⟨fun z => K1 ((fun z => Int.not_lt.mp z) z), fun z => K2 ((fun z => Decidable.not_not.mp z) z)⟩
theorem p_ic_ge_t {n : Nat} {x y : Int} {t : Int} (tg' : Nat) (hc : codeAt m pc = some (.if_icmp .ge t, n)) (ht : t.toNat = tg') (hx : y ≤ x) (K1 : Wp d rc rs m tg' ls st h q) : Wp d rc rs m pc ls (.inl y :: .inl x :: st) h q := p_ic_ge _ _ hc rfl ht (fun _ => K1) (fun z => by omega)
theorem p_ic_ge_f {n : Nat} {x y : Int} {t : Int} (pc' : Nat) (hc : codeAt m pc = some (.if_icmp .ge t, n)) (hp : pc + n = pc') (hx : x < y) (K2 : Wp d rc rs m pc' ls st h q) : Wp d rc rs m pc ls (.inl y :: .inl x :: st) h q := p_ic_ge _ _ hc hp rfl (fun z => by omega) (fun _ => K2)
theorem p_if_ge {n : Nat} {x : Int} {t : Int} (pc' tg' : Nat) (hc : codeAt m pc = some (.ifCond .ge t, n)) (hp : pc + n = pc') (ht : t.toNat = tg') (K1 : 0 ≤ x → Wp d rc rs m tg' ls st h q) (K2 : x < 0 → Wp d rc rs m pc' ls st h q) : Wp d rc rs m pc ls (.inl x :: st) h q := by
  subst hp; subst ht
  exact Wp_step hc ⟨fun z => K1 ((fun z => Int.not_lt.mp z) z), fun z => K2 ((fun z => Decidable.not_not.mp z) z)⟩
theorem p_if_ge_t {n : Nat} {x : Int} {t : Int} (tg' : Nat) (hc : codeAt m pc = some (.ifCond .ge t, n)) (ht : t.toNat = tg') (hx : 0 ≤ x) (K1 : Wp d rc rs m tg' ls st h q) : Wp d rc rs m pc ls (.inl x :: st) h q := p_if_ge _ _ hc rfl ht (fun _ => K1) (fun z => by omega)
theorem p_if_ge_f {n : Nat} {x : Int} {t : Int} (pc' : Nat) (hc : codeAt m pc = some (.ifCond .ge t, n)) (hp : pc + n = pc') (hx : x < 0) (K2 : Wp d rc rs m pc' ls st h q) : Wp d rc rs m pc ls (.inl x :: st) h q := p_if_ge _ _ hc hp rfl (fun z => by omega) (fun _ => K2)
theorem p_ic_gt {n : Nat} {x y : Int} {t : Int} (pc' tg' : Nat) (hc : codeAt m pc = some (.if_icmp .gt t, n)) (hp : pc + n = pc') (ht : t.toNat = tg') (K1 : y < x → Wp d rc rs m tg' ls st h q) (K2 : x ≤ y → Wp d rc rs m pc' ls st h q) : Wp d rc rs m pc ls (.inl y :: .inl x :: st) h q := by
  subst hp; subst ht
  exact Wp_step hc ⟨fun z => K1 ((fun z => z) z), fun z => K2 ((fun z => Int.not_lt.mp z) z)⟩
theorem p_ic_gt_t {n : Nat} {x y : Int} {t : Int} (tg' : Nat) (hc : codeAt m pc = some (.if_icmp .gt t, n)) (ht : t.toNat = tg') (hx : y < x) (K1 : Wp d rc rs m tg' ls st h q) : Wp d rc rs m pc ls (.inl y :: .inl x :: st) h q := p_ic_gt _ _ hc rfl ht (fun _ => K1) (fun z => by omega)
theorem p_ic_gt_f {n : Nat} {x y : Int} {t : Int} (pc' : Nat) (hc : codeAt m pc = some (.if_icmp .gt t, n)) (hp : pc + n = pc') (hx : x ≤ y) (K2 : Wp d rc rs m pc' ls st h q) : Wp d rc rs m pc ls (.inl y :: .inl x :: st) h q := p_ic_gt _ _ hc hp rfl (fun z => by omega) (fun _ => K2)
theorem p_if_gt {n : Nat} {x : Int} {t : Int} (pc' tg' : Nat) (hc : codeAt m pc = some (.ifCond .gt t, n)) (hp : pc + n = pc') (ht : t.toNat = tg') (K1 : 0 < x → Wp d rc rs m tg' ls st h q) (K2 : x ≤ 0 → Wp d rc rs m pc' ls st h q) : Wp d rc rs m pc ls (.inl x :: st) h q := by
  subst hp; subst ht
  exact Wp_step hc ⟨fun z => K1 ((fun z => z) z), fun z => K2 ((fun z => Int.not_lt.mp z) z)⟩
theorem p_if_gt_t {n : Nat} {x : Int} {t : Int} (tg' : Nat) (hc : codeAt m pc = some (.ifCond .gt t, n)) (ht : t.toNat = tg') (hx : 0 < x) (K1 : Wp d rc rs m tg' ls st h q) : Wp d rc rs m pc ls (.inl x :: st) h q := p_if_gt _ _ hc rfl ht (fun _ => K1) (fun z => by omega)
theorem p_if_gt_f {n : Nat} {x : Int} {t : Int} (pc' : Nat) (hc : codeAt m pc = some (.ifCond .gt t, n)) (hp : pc + n = pc') (hx : x ≤ 0) (K2 : Wp d rc rs m pc' ls st h q) : Wp d rc rs m pc ls (.inl x :: st) h q := p_if_gt _ _ hc hp rfl (fun z => by omega) (fun _ => K2)
theorem p_ic_le {n : Nat} {x y : Int} {t : Int} (pc' tg' : Nat) (hc : codeAt m pc = some (.if_icmp .le t, n)) (hp : pc + n = pc') (ht : t.toNat = tg') (K1 : x ≤ y → Wp d rc rs m tg' ls st h q) (K2 : y < x → Wp d rc rs m pc' ls st h q) : Wp d rc rs m pc ls (.inl y :: .inl x :: st) h q := by
  subst hp; subst ht
  exact Wp_step hc ⟨fun z => K1 ((fun z => Int.not_lt.mp z) z), fun z => K2 ((fun z => Decidable.not_not.mp z) z)⟩
theorem p_ic_le_t {n : Nat} {x y : Int} {t : Int} (tg' : Nat) (hc : codeAt m pc = some (.if_icmp .le t, n)) (ht : t.toNat = tg') (hx : x ≤ y) (K1 : Wp d rc rs m tg' ls st h q) : Wp d rc rs m pc ls (.inl y :: .inl x :: st) h q := p_ic_le _ _ hc rfl ht (fun _ => K1) (fun z => by omega)
theorem p_ic_le_f {n : Nat} {x y : Int} {t : Int} (pc' : Nat) (hc : codeAt m pc = some (.if_icmp .le t, n)) (hp : pc + n = pc') (hx : y < x) (K2 : Wp d rc rs m pc' ls st h q) : Wp d rc rs m pc ls (.inl y :: .inl x :: st) h q := p_ic_le _ _ hc hp rfl (fun z => by omega) (fun _ => K2)
theorem p_if_le {n : Nat} {x : Int} {t : Int} (pc' tg' : Nat) (hc : codeAt m pc = some (.ifCond .le t, n)) (hp : pc + n = pc') (ht : t.toNat = tg') (K1 : x ≤ 0 → Wp d rc rs m tg' ls st h q) (K2 : 0 < x → Wp d rc rs m pc' ls st h q) : Wp d rc rs m pc ls (.inl x :: st) h q := by
  subst hp; subst ht
  exact Wp_step hc ⟨fun z => K1 ((fun z => Int.not_lt.mp z) z), fun z => K2 ((fun z => Decidable.not_not.mp z) z)⟩
theorem p_if_le_t {n : Nat} {x : Int} {t : Int} (tg' : Nat) (hc : codeAt m pc = some (.ifCond .le t, n)) (ht : t.toNat = tg') (hx : x ≤ 0) (K1 : Wp d rc rs m tg' ls st h q) : Wp d rc rs m pc ls (.inl x :: st) h q := p_if_le _ _ hc rfl ht (fun _ => K1) (fun z => by omega)
theorem p_if_le_f {n : Nat} {x : Int} {t : Int} (pc' : Nat) (hc : codeAt m pc = some (.ifCond .le t, n)) (hp : pc + n = pc') (hx : 0 < x) (K2 : Wp d rc rs m pc' ls st h q) : Wp d rc rs m pc ls (.inl x :: st) h q := p_if_le _ _ hc hp rfl (fun z => by omega) (fun _ => K2)
theorem p_lc_eq {n n2 : Nat} {x y : Int} {t : Int} (pc1 pc' tg' : Nat) (hc : codeAt m pc = some (.lcmp, n)) (h1 : pc + n = pc1) (hc2 : codeAt m pc1 = some (.ifCond .eq t, n2)) (hp : pc1 + n2 = pc') (ht : t.toNat = tg') (K1 : x = y → Wp d rc rs m tg' ls st h q) (K2 : ¬ x = y → Wp d rc rs m pc' ls st h q) : Wp d rc rs m pc ls (.inr (.inl y) :: .inr (.inl x) :: st) h q := by
  subst h1
  exact Wp_step hc ⟨fun z => p_if_eq_f _ hc2 hp (by decide) (K2 (by omega)), fun z => p_if_eq_t _ hc2 ht (by decide) (K1 (by omega)), fun z => p_if_eq_f _ hc2 hp (by decide) (K2 (by omega))⟩
theorem p_lc_ne {n n2 : Nat} {x y : Int} {t : Int} (pc1 pc' tg' : Nat) (hc : codeAt m pc = some (.lcmp, n)) (h1 : pc + n = pc1) (hc2 : codeAt m pc1 = some (.ifCond .ne t, n2)) (hp : pc1 + n2 = pc') (ht : t.toNat = tg') (K1 : ¬ x = y → Wp d rc rs m tg' ls st h q) (K2 : x = y → Wp d rc rs m pc' ls st h q) : Wp d rc rs m pc ls (.inr (.inl y) :: .inr (.inl x) :: st) h q := by
  subst h1
  exact Wp_step hc ⟨fun z => p_if_ne_t _ hc2 ht (by decide) (K1 (by omega)), fun z => p_if_ne_f _ hc2 hp (by decide) (K2 (by omega)), fun z => p_if_ne_t _ hc2 ht (by decide) (K1 (by omega))⟩
theorem p_lc_lt {n n2 : Nat} {x y : Int} {t : Int} (pc1 pc' tg' : Nat) (hc : codeAt m pc = some (.lcmp, n)) (h1 : pc + n = pc1) (hc2 : codeAt m pc1 = some (.ifCond .lt t, n2)) (hp : pc1 + n2 = pc') (ht : t.toNat = tg') (K1 : x < y → Wp d rc rs m tg' ls st h q) (K2 : y ≤ x → Wp d rc rs m pc' ls st h q) : Wp d rc rs m pc ls (.inr (.inl y) :: .inr (.inl x) :: st) h q := by
  subst h1
  exact Wp_step hc ⟨fun z => p_if_lt_t _ hc2 ht (by decide) (K1 (by omega)), fun z => p_if_lt_f _ hc2 hp (by decide) (K2 (by omega)), fun z => p_if_lt_f _ hc2 hp (by decide) (K2 (by omega))⟩
theorem p_lc_ge {n n2 : Nat} {x y : Int} {t : Int} (pc1 pc' tg' : Nat) (hc : codeAt m pc = some (.lcmp, n)) (h1 : pc + n = pc1) (hc2 : codeAt m pc1 = some (.ifCond .ge t, n2)) (hp : pc1 + n2 = pc') (ht : t.toNat = tg') (K1 : y ≤ x → Wp d rc rs m tg' ls st h q) (K2 : x < y → Wp d rc rs m pc' ls st h q) : Wp d rc rs m pc ls (.inr (.inl y) :: .inr (.inl x) :: st) h q := by
  subst h1
  exact Wp_step hc ⟨fun z => p_if_ge_f _ hc2 hp (by decide) (K2 (by omega)), fun z => p_if_ge_t _ hc2 ht (by decide) (K1 (by omega)), fun z => p_if_ge_t _ hc2 ht (by decide) (K1 (by omega))⟩
theorem p_lc_gt {n n2 : Nat} {x y : Int} {t : Int} (pc1 pc' tg' : Nat) (hc : codeAt m pc = some (.lcmp, n)) (h1 : pc + n = pc1) (hc2 : codeAt m pc1 = some (.ifCond .gt t, n2)) (hp : pc1 + n2 = pc') (ht : t.toNat = tg') (K1 : y < x → Wp d rc rs m tg' ls st h q) (K2 : x ≤ y → Wp d rc rs m pc' ls st h q) : Wp d rc rs m pc ls (.inr (.inl y) :: .inr (.inl x) :: st) h q := by
  subst h1
  exact Wp_step hc ⟨fun z => p_if_gt_f _ hc2 hp (by decide) (K2 (by omega)), fun z => p_if_gt_f _ hc2 hp (by decide) (K2 (by omega)), fun z => p_if_gt_t _ hc2 ht (by decide) (K1 (by omega))⟩
theorem p_lc_le {n n2 : Nat} {x y : Int} {t : Int} (pc1 pc' tg' : Nat) (hc : codeAt m pc = some (.lcmp, n)) (h1 : pc + n = pc1) (hc2 : codeAt m pc1 = some (.ifCond .le t, n2)) (hp : pc1 + n2 = pc') (ht : t.toNat = tg') (K1 : x ≤ y → Wp d rc rs m tg' ls st h q) (K2 : y < x → Wp d rc rs m pc' ls st h q) : Wp d rc rs m pc ls (.inr (.inl y) :: .inr (.inl x) :: st) h q := by
  subst h1
  exact Wp_step hc ⟨fun z => p_if_le_t _ hc2 ht (by decide) (K1 (by omega)), fun z => p_if_le_t _ hc2 ht (by decide) (K1 (by omega)), fun z => p_if_le_f _ hc2 hp (by decide) (K2 (by omega))⟩
theorem p_goto {n : Nat} {t : Int} (tg' : Nat) (hc : codeAt m pc = some (.goto t, n)) (ht : t.toNat = tg') (K : Wp d rc rs m tg' ls st h q) : Wp d rc rs m pc ls st h q := by subst ht; exact Wp_step hc K
theorem p_ifnull {n : Nat} {x : Int} {t : Int} (pc' tg' : Nat) (hc : codeAt m pc = some (.ifnull t, n)) (hp : pc + n = pc') (ht : t.toNat = tg') (K1 : x = 0 → Wp d rc rs m tg' ls st h q) (K2 : ¬ x = 0 → Wp d rc rs m pc' ls st h q) : Wp d rc rs m pc ls (.inr (.inr x) :: st) h q := by
  subst hp; subst ht; exact Wp_step hc ⟨fun z => K1 z, fun z => K2 z⟩
theorem p_ifnonnull {n : Nat} {x : Int} {t : Int} (pc' tg' : Nat) (hc : codeAt m pc = some (.ifnonnull t, n)) (hp : pc + n = pc') (ht : t.toNat = tg') (K1 : ¬ x = 0 → Wp d rc rs m tg' ls st h q) (K2 : x = 0 → Wp d rc rs m pc' ls st h q) : Wp d rc rs m pc ls (.inr (.inr x) :: st) h q := by
  subst hp; subst ht; exact Wp_step hc ⟨fun z => K2 z, fun z => K1 z⟩
theorem p_swt {n : Nat} {x : Int} {t : Int} {ps : Array (Int × Int)} (hc : codeAt m pc = some (.lookupswitch t ps, n)) (K : swt x (fun t => Wp d rc rs m t.toNat ls st h q) t ps.toList) : Wp d rc rs m pc ls (.inl x :: st) h q := Wp_step hc K
theorem p_getfi {n f : Nat} {a j z : Int} (pc' : Nat) (hc : codeAt m pc = some (.getfield f, n)) (hp : pc + n = pc') (hk : fk f = 0) (ht : tg h a = ((f / 100 : Nat) : Int)) (he : ((f % 100 : Nat) : Int) = j) (hz : gv h a j = z) (K : Wp d rc rs m pc' ls (.inl z :: st) h q) : Wp d rc rs m pc ls (.inr (.inr a) :: st) h q := by
  subst hp
  subst he; subst hz; refine Wp_step hc ⟨ht, ?_⟩; rw [hk]; exact K
theorem p_getfl {n f : Nat} {a j z : Int} (pc' : Nat) (hc : codeAt m pc = some (.getfield f, n)) (hp : pc + n = pc') (hk : fk f = 1) (ht : tg h a = ((f / 100 : Nat) : Int)) (he : ((f % 100 : Nat) : Int) = j) (hz : gv h a j = z) (K : Wp d rc rs m pc' ls (.inr (.inl z) :: st) h q) : Wp d rc rs m pc ls (.inr (.inr a) :: st) h q := by
  subst hp
  subst he; subst hz; refine Wp_step hc ⟨ht, ?_⟩; rw [hk]; exact K
theorem p_getfr {n f : Nat} {a j z : Int} (pc' : Nat) (hc : codeAt m pc = some (.getfield f, n)) (hp : pc + n = pc') (hk : fk f = 2) (ht : tg h a = ((f / 100 : Nat) : Int)) (he : ((f % 100 : Nat) : Int) = j) (hz : gv h a j = z) (K : Wp d rc rs m pc' ls (.inr (.inr z) :: st) h q) : Wp d rc rs m pc ls (.inr (.inr a) :: st) h q := by
  subst hp
  subst he; subst hz; refine Wp_step hc ⟨ht, ?_⟩; rw [hk]; exact K
theorem p_getfz {n f : Nat} {a j z : Int} (pc' : Nat) (hc : codeAt m pc = some (.getfield f, n)) (hp : pc + n = pc') (hk : fk f = 3) (ht : tg h a = ((f / 100 : Nat) : Int)) (he : ((f % 100 : Nat) : Int) = j) (hz : gv h a j = z) (K : Wp d rc rs m pc' ls (.inl z :: st) h q) : Wp d rc rs m pc ls (.inr (.inr a) :: st) h q := by
  subst hp
  subst he; subst hz; refine Wp_step hc ⟨ht, ?_⟩; rw [hk]; exact K
theorem p_putfi {n f : Nat} {a x j : Int} (pc' : Nat) (hc : codeAt m pc = some (.putfield f, n)) (hp : pc + n = pc') (hk : fk f = 0) (hff : ff f = true → mK m = 2 ∧ mC m = f / 100) (ht : tg h a = ((f / 100 : Nat) : Int)) (he : ((f % 100 : Nat) : Int) = j) (K : Wp d rc rs m pc' ls (st) (sv h a j x) q) : Wp d rc rs m pc ls (.inl x :: .inr (.inr a) :: st) h q := by
  subst hp
  subst he; refine Wp_step hc ⟨ht, hff, ?_⟩; rw [hk]; exact K
theorem p_putfl {n f : Nat} {a x j : Int} (pc' : Nat) (hc : codeAt m pc = some (.putfield f, n)) (hp : pc + n = pc') (hk : fk f = 1) (hff : ff f = true → mK m = 2 ∧ mC m = f / 100) (ht : tg h a = ((f / 100 : Nat) : Int)) (he : ((f % 100 : Nat) : Int) = j) (K : Wp d rc rs m pc' ls (st) (sv h a j x) q) : Wp d rc rs m pc ls (.inr (.inl x) :: .inr (.inr a) :: st) h q := by
  subst hp
  subst he; refine Wp_step hc ⟨ht, hff, ?_⟩; rw [hk]; exact K
theorem p_putfr {n f : Nat} {a x j : Int} (pc' : Nat) (hc : codeAt m pc = some (.putfield f, n)) (hp : pc + n = pc') (hk : fk f = 2) (hff : ff f = true → mK m = 2 ∧ mC m = f / 100) (ht : tg h a = ((f / 100 : Nat) : Int)) (he : ((f % 100 : Nat) : Int) = j) (K : Wp d rc rs m pc' ls (st) (sv h a j x) q) : Wp d rc rs m pc ls (.inr (.inr x) :: .inr (.inr a) :: st) h q := by
  subst hp
  subst he; refine Wp_step hc ⟨ht, hff, ?_⟩; rw [hk]; exact K
theorem p_putfz {n f : Nat} {a x j : Int} (pc' : Nat) (hc : codeAt m pc = some (.putfield f, n)) (hp : pc + n = pc') (hk : fk f = 3) (hff : ff f = true → mK m = 2 ∧ mC m = f / 100) (ht : tg h a = ((f / 100 : Nat) : Int)) (h3 : x = 0 ∨ x = 1) (he : ((f % 100 : Nat) : Int) = j) (K : Wp d rc rs m pc' ls (st) (sv h a j x) q) : Wp d rc rs m pc ls (.inl x :: .inr (.inr a) :: st) h q := by
  subst hp
  subst he; refine Wp_step hc ⟨ht, hff, ?_⟩; rw [hk]; exact ⟨h3, K⟩
theorem p_iald {n : Nat} {a i w z : Int} (pc' : Nat) (hc : codeAt m pc = some (.iaload, n)) (hp : pc + n = pc') (ht : tg h a = 100) (hl : ln h a = w) (h0 : 0 ≤ i) (h1 : i < w) (hz : gv h a i = z) (K : Wp d rc rs m pc' ls (.inl z :: st) h q) : Wp d rc rs m pc ls (.inl i :: .inr (.inr a) :: st) h q := by
  subst hp
  subst hz; exact Wp_step hc ⟨ht, h0, by omega, K⟩
theorem p_lald {n : Nat} {a i w z : Int} (pc' : Nat) (hc : codeAt m pc = some (.laload, n)) (hp : pc + n = pc') (ht : tg h a = 101) (hl : ln h a = w) (h0 : 0 ≤ i) (h1 : i < w) (hz : gv h a i = z) (K : Wp d rc rs m pc' ls (.inr (.inl z) :: st) h q) : Wp d rc rs m pc ls (.inl i :: .inr (.inr a) :: st) h q := by
  subst hp
  subst hz; exact Wp_step hc ⟨ht, h0, by omega, K⟩
theorem p_bald {n : Nat} {a i w z : Int} (pc' : Nat) (hc : codeAt m pc = some (.baload, n)) (hp : pc + n = pc') (ht : tg h a = 102 ∨ tg h a = 103) (hl : ln h a = w) (h0 : 0 ≤ i) (h1 : i < w) (hz : gv h a i = z) (K : Wp d rc rs m pc' ls (.inl z :: st) h q) : Wp d rc rs m pc ls (.inl i :: .inr (.inr a) :: st) h q := by
  subst hp
  subst hz; exact Wp_step hc ⟨ht, h0, by omega, K⟩
theorem p_cald {n : Nat} {a i w z : Int} (pc' : Nat) (hc : codeAt m pc = some (.caload, n)) (hp : pc + n = pc') (ht : tg h a = 104) (hl : ln h a = w) (h0 : 0 ≤ i) (h1 : i < w) (hz : gv h a i = z) (K : Wp d rc rs m pc' ls (.inl z :: st) h q) : Wp d rc rs m pc ls (.inl i :: .inr (.inr a) :: st) h q := by
  subst hp
  subst hz; exact Wp_step hc ⟨ht, h0, by omega, K⟩
theorem p_aald {n : Nat} {a i w z : Int} (pc' : Nat) (hc : codeAt m pc = some (.aaload, n)) (hp : pc + n = pc') (ht : tg h a = 105 ∨ tg h a = 106) (hl : ln h a = w) (h0 : 0 ≤ i) (h1 : i < w) (hz : gv h a i = z) (K : Wp d rc rs m pc' ls (.inr (.inr z) :: st) h q) : Wp d rc rs m pc ls (.inl i :: .inr (.inr a) :: st) h q := by
  subst hp
  subst hz; exact Wp_step hc ⟨ht, h0, by omega, K⟩
theorem p_iast {n : Nat} {a i x w : Int} (pc' : Nat) (hc : codeAt m pc = some (.iastore, n)) (hp : pc + n = pc') (ha : 2 ≤ a) (ht : tg h a = 100) (hl : ln h a = w) (h0 : 0 ≤ i) (h1 : i < w) (K : Wp d rc rs m pc' ls (st) (sv h a i x) q) : Wp d rc rs m pc ls (.inl x :: .inl i :: .inr (.inr a) :: st) h q := by
  subst hp
  exact Wp_step hc ⟨ha, ht, h0, by omega, K⟩
theorem p_last {n : Nat} {a i x w : Int} (pc' : Nat) (hc : codeAt m pc = some (.lastore, n)) (hp : pc + n = pc') (ha : 2 ≤ a) (ht : tg h a = 101) (hl : ln h a = w) (h0 : 0 ≤ i) (h1 : i < w) (K : Wp d rc rs m pc' ls (st) (sv h a i x) q) : Wp d rc rs m pc ls (.inr (.inl x) :: .inl i :: .inr (.inr a) :: st) h q := by
  subst hp
  exact Wp_step hc ⟨ha, ht, h0, by omega, K⟩
theorem p_bast {n : Nat} {a i x w : Int} (pc' : Nat) (hc : codeAt m pc = some (.bastore, n)) (hp : pc + n = pc') (ha : 2 ≤ a) (ht : tg h a = 102) (hl : ln h a = w) (h0 : 0 ≤ i) (h1 : i < w) (hx : -128 ≤ x ∧ x < 128) (K : Wp d rc rs m pc' ls (st) (sv h a i x) q) : Wp d rc rs m pc ls (.inl x :: .inl i :: .inr (.inr a) :: st) h q := by
  subst hp
  exact Wp_step hc ⟨ha, Or.inl ⟨ht, hx⟩, h0, by omega, K⟩
theorem p_zast {n : Nat} {a i x w : Int} (pc' : Nat) (hc : codeAt m pc = some (.bastore, n)) (hp : pc + n = pc') (ha : 2 ≤ a) (ht : tg h a = 103) (hl : ln h a = w) (h0 : 0 ≤ i) (h1 : i < w) (hx : 0 ≤ x ∧ x ≤ 1) (K : Wp d rc rs m pc' ls (st) (sv h a i x) q) : Wp d rc rs m pc ls (.inl x :: .inl i :: .inr (.inr a) :: st) h q := by
  subst hp
  exact Wp_step hc ⟨ha, Or.inr ⟨ht, hx⟩, h0, by omega, K⟩
theorem p_cast {n : Nat} {a i x w : Int} (pc' : Nat) (hc : codeAt m pc = some (.castore, n)) (hp : pc + n = pc') (ha : 2 ≤ a) (ht : tg h a = 104) (hl : ln h a = w) (h0 : 0 ≤ i) (h1 : i < w) (hx : 0 ≤ x ∧ x < 65536) (K : Wp d rc rs m pc' ls (st) (sv h a i x) q) : Wp d rc rs m pc ls (.inl x :: .inl i :: .inr (.inr a) :: st) h q := by
  subst hp
  exact Wp_step hc ⟨ha, ht, hx.1, hx.2, h0, by omega, K⟩
theorem p_aast {n : Nat} {a i x w : Int} (pc' : Nat) (hc : codeAt m pc = some (.aastore, n)) (hp : pc + n = pc') (ha : 2 ≤ a) (ht : tg h a = 105) (hl : ln h a = w) (hx : tg h x = 1) (h0 : 0 ≤ i) (h1 : i < w) (K : Wp d rc rs m pc' ls (st) (sv h a i x) q) : Wp d rc rs m pc ls (.inr (.inr x) :: .inl i :: .inr (.inr a) :: st) h q := by
  subst hp
  exact Wp_step hc ⟨ha, ht, hx, h0, by omega, K⟩
theorem p_alen {n : Nat} {a w : Int} (pc' : Nat) (hc : codeAt m pc = some (.arraylength, n)) (hp : pc + n = pc') (ht : 100 ≤ tg h a) (hl : ln h a = w) (K : Wp d rc rs m pc' ls (.inl w :: st) h q) : Wp d rc rs m pc ls (.inr (.inr a) :: st) h q := by
  subst hp
  subst hl; exact Wp_step hc ⟨ht, K⟩
theorem p_new {n c : Nat} (pc' rc' rs' : Nat) (hc : codeAt m pc = some (.new c, n)) (hp : pc + n = pc') (h0 : c < 13) (h1 : 1 ≤ rc) (h2 : fN c ≤ rs) (h3 : rc - 1 = rc') (h4 : rs - fN c = rs') (K : Wp d rc' rs' m pc' ls (.inr (.inr (nx h)) :: st) (al h (c : Int) (fN c : Int)) q) : Wp d rc rs m pc ls st h q := by
  subst hp; subst h3; subst h4; exact Wp_step hc ⟨h0, h1, h2, K⟩
theorem p_newa {n : Nat} {t : ArrayType} {k tt : Int} (pc' rc' rs' : Nat) (hc : codeAt m pc = some (.newarray t, n)) (hp : pc + n = pc') (h0 : atc t = tt) (ht0 : 0 ≤ tt) (hk : 0 ≤ k) (h1 : 1 ≤ rc) (h2 : k.toNat ≤ rs) (h3 : rc - 1 = rc') (h4 : rs - k.toNat = rs') (K : Wp d rc' rs' m pc' ls (.inr (.inr (nx h)) :: st) (al h tt k) q) : Wp d rc rs m pc ls (.inl k :: st) h q := by
  subst hp; subst h3; subst h4; subst h0; exact Wp_step hc ⟨ht0, hk, h1, h2, K⟩
theorem p_anew {n i : Nat} {k : Int} (pc' rc' rs' : Nat) (hc : codeAt m pc = some (.anewarray i, n)) (hp : pc + n = pc') (hk : 0 ≤ k) (h1 : 1 ≤ rc) (h2 : k.toNat ≤ rs) (h3 : rc - 1 = rc') (h4 : rs - k.toNat = rs') (K : Wp d rc' rs' m pc' ls (.inr (.inr (nx h)) :: st) (al h 105 k) q) : Wp d rc rs m pc ls (.inl k :: st) h q := by
  subst hp; subst h3; subst h4; exact Wp_step hc ⟨hk, h1, h2, K⟩
theorem p_mnew {n i w : Nat} {j k : Int} (pc' rc' rs' : Nat) (hc : codeAt m pc = some (.multianewarray i w, n)) (hp : pc + n = pc') (hj : 0 ≤ j) (hk : 0 ≤ k) (hk6 : k ≤ 65536) (h1 : 1 + j.toNat ≤ rc) (h2 : j.toNat + j.toNat * k.toNat ≤ rs) (h3 : rc - (1 + j.toNat) = rc') (h4 : rs - (j.toNat + j.toNat * k.toNat) = rs') (K : Wp d rc' rs' m pc' ls (.inr (.inr (nx h)) :: st) (al2 h j k) q) : Wp d rc rs m pc ls (.inl k :: .inl j :: st) h q := by
  subst hp; subst h3; subst h4; exact Wp_step hc ⟨hj, hk, hk6, h1, h2, K⟩
theorem p_calls {n k : Nat} {as rest : List PV} {le : List (Option PV)} (pc' rc' rs' rc1 rs1 : Nat) (hc : codeAt m pc = some (.invokestatic k, n)) (hp : pc + n = pc') (hk : k < M_L_law) (hK : mK k = 0) (hn : mN k ≤ st.length) (ha : (st.take (mN k)).reverse = as) (hr : st.drop (mN k) = rest) (hcat : catS rest ≤ 8) (hle : entry k as = le) (hlen : (entL as).length ≤ mML k) (hA : aCS k = (rc', rs')) (h1 : rc' ≤ rc) (h2 : rs' ≤ rs) (h3 : rc - rc' = rc1) (h4 : rs - rs' = rs1)
    (K : Wp d rc' rs' k 0 le [] h (fun r h' => Wp (d + 1) rc1 rs1 m pc' ls (r.toList ++ rest) h' q)) : Wp (d + 1) rc rs m pc ls st h q := by
  subst hp; subst ha; subst hr; subst hle; subst h3; subst h4
  have e1 : (aCS k).1 = rc' := by rw [hA]
  have e2 : (aCS k).2 = rs' := by rw [hA]
  exact Wp_step hc ⟨hk, hK, hn, Nat.succ_pos d, by rw [e1]; exact h1, by rw [e2]; exact h2, hcat, hlen, fun z => absurd rfl z, _, by rw [e1, e2]; exact K, fun r h' z => by rw [e1, e2]; exact z⟩
theorem p_callv {n k : Nat} {as rest : List PV} {le : List (Option PV)} (pc' rc' rs' rc1 rs1 : Nat) (hc : codeAt m pc = some (.invokevirtual k, n)) (hp : pc + n = pc') (hk : k < M_L_law) (hK : mK k = 1) (hn : mN k ≤ st.length) (ha : (st.take (mN k)).reverse = as) (hr : st.drop (mN k) = rest) (hcat : catS rest ≤ 8) (hle : entry k as = le) (hlen : (entL as).length ≤ mML k) (hA : aCS k = (rc', rs')) (h1 : rc' ≤ rc) (h2 : rs' ≤ rs) (h3 : rc - rc' = rc1) (h4 : rs - rs' = rs1) (hrv : recv h (mC k) st[mN k - 1]?)
    (K : Wp d rc' rs' k 0 le [] h (fun r h' => Wp (d + 1) rc1 rs1 m pc' ls (r.toList ++ rest) h' q)) : Wp (d + 1) rc rs m pc ls st h q := by
  subst hp; subst ha; subst hr; subst hle; subst h3; subst h4
  have e1 : (aCS k).1 = rc' := by rw [hA]
  have e2 : (aCS k).2 = rs' := by rw [hA]
  exact Wp_step hc ⟨hk, hK, hn, Nat.succ_pos d, by rw [e1]; exact h1, by rw [e2]; exact h2, hcat, hlen, fun _ => hrv, _, by rw [e1, e2]; exact K, fun r h' z => by rw [e1, e2]; exact z⟩
theorem p_calli {n k : Nat} {as rest : List PV} {le : List (Option PV)} (pc' rc' rs' rc1 rs1 : Nat) (hc : codeAt m pc = some (.invokespecial k, n)) (hp : pc + n = pc') (hk : k < M_L_law) (hK : mK k = 2) (hn : mN k ≤ st.length) (ha : (st.take (mN k)).reverse = as) (hr : st.drop (mN k) = rest) (hcat : catS rest ≤ 8) (hle : entry k as = le) (hlen : (entL as).length ≤ mML k) (hA : aCS k = (rc', rs')) (h1 : rc' ≤ rc) (h2 : rs' ≤ rs) (h3 : rc - rc' = rc1) (h4 : rs - rs' = rs1) (hrv : recv h (mC k) st[mN k - 1]?)
    (K : Wp d rc' rs' k 0 le [] h (fun r h' => Wp (d + 1) rc1 rs1 m pc' ls (r.toList ++ rest) h' q)) : Wp (d + 1) rc rs m pc ls st h q := by
  subst hp; subst ha; subst hr; subst hle; subst h3; subst h4
  have e1 : (aCS k).1 = rc' := by rw [hA]
  have e2 : (aCS k).2 = rs' := by rw [hA]
  refine Wp_step hc ?_
  show (if k = 9999 then _ else callP Wp k 2 n (d + 1) rc rs m pc ls st h q)
  rw [if_neg (by have : k < 1000 := Nat.lt_trans hk (by decide); omega)]
  exact ⟨hk, hK, hn, Nat.succ_pos d, by rw [e1]; exact h1, by rw [e2]; exact h2, hcat, hlen, fun _ => hrv, _, by rw [e1, e2]; exact K, fun r h' z => by rw [e1, e2]; exact z⟩
theorem p_objinit {n : Nat} {a : Int} (pc' : Nat) (hc : codeAt m pc = some (.invokespecial 9999, n)) (hp : pc + n = pc') (ha : 0 < a) (hd : 0 < d) (hcat : catS st ≤ 8) (K : Wp d rc rs m pc' ls (st) h q) : Wp d rc rs m pc ls (.inr (.inr a) :: st) h q := by
  subst hp
  refine Wp_step hc ?_; show ite ((9999 : Nat) = 9999) (are (.inr (.inr a) :: st) fun a r => 0 < a ∧ 0 < d ∧ catS r ≤ 8 ∧ Wp d rc rs m (pc + n) ls r h q) (callP Wp 9999 2 n d rc rs m pc ls (.inr (.inr a) :: st) h q); rw [if_pos rfl]; exact ⟨ha, hd, hcat, K⟩
theorem p_copy {n : Nat} {a b sp dp k wa wb : Int} (pc' : Nat) (hc : codeAt m pc = some (.invokedynamic 1, n)) (hp : pc + n = pc') (ha : 2 ≤ a) (hb : 2 ≤ b) (hta : tg h a = 100) (htb : tg h b = 100) (hla : ln h a = wa) (hlb : ln h b = wb) (h1 : 0 ≤ sp) (h2 : 0 ≤ dp) (h3 : 0 ≤ k) (h4 : sp + k ≤ wa) (h5 : dp + k ≤ wb) (hd : 0 < d) (hcat : catS st ≤ 8) (K : Wp d rc rs m pc' ls (st) (cp h a sp b dp k) q) : Wp d rc rs m pc ls (.inl k :: .inl dp :: .inr (.inr b) :: .inl sp :: .inr (.inr a) :: st) h q := by
  subst hp
  subst hla; subst hlb; exact Wp_step hc ⟨ha, hb, hta, htb, h1, h2, h3, h4, h5, hd, hcat, K⟩
theorem p_mini {n : Nat} {x y z : Int} (pc' : Nat) (hc : codeAt m pc = some (.invokedynamic 2, n)) (hp : pc + n = pc') (hd : 0 < d) (hcat : catS st ≤ 8) (hz : min x y = z) (K : Wp d rc rs m pc' ls (.inl z :: st) h q) : Wp d rc rs m pc ls (.inl y :: .inl x :: st) h q := by
  subst hp
  subst hz; exact Wp_step hc ⟨hd, hcat, K⟩
theorem p_maxl {n : Nat} {x y z : Int} (pc' : Nat) (hc : codeAt m pc = some (.invokedynamic 3, n)) (hp : pc + n = pc') (hd : 0 < d) (hcat : catS st ≤ 8) (hz : max x y = z) (K : Wp d rc rs m pc' ls (.inr (.inl z) :: st) h q) : Wp d rc rs m pc ls (.inr (.inl y) :: .inr (.inl x) :: st) h q := by
  subst hp
  subst hz; exact Wp_step hc ⟨hd, hcat, K⟩
theorem p_minl {n : Nat} {x y z : Int} (pc' : Nat) (hc : codeAt m pc = some (.invokedynamic 4, n)) (hp : pc + n = pc') (hd : 0 < d) (hcat : catS st ≤ 8) (hz : min x y = z) (K : Wp d rc rs m pc' ls (.inr (.inl z) :: st) h q) : Wp d rc rs m pc ls (.inr (.inl y) :: .inr (.inl x) :: st) h q := by
  subst hp
  subst hz; exact Wp_step hc ⟨hd, hcat, K⟩
theorem p_ccast {n i : Nat} {a : Int} (pc' : Nat) (hc : codeAt m pc = some (.checkcast i, n)) (hp : pc + n = pc') (ha : 2 ≤ a) (ht : tg h a = 100) (K : Wp d rc rs m pc' ls (.inr (.inr a) :: st) h q) : Wp d rc rs m pc ls (.inr (.inr a) :: st) h q := by
  subst hp
  exact Wp_step hc ⟨ha, ht, K⟩
theorem p_clone {n : Nat} {a : Int} (pc' rc' rs' : Nat) (hc : codeAt m pc = some (.invokedynamic 0, n)) (hp : pc + n = pc') (ha : 2 ≤ a) (ht : tg h a = 100) (hd : 0 < d) (hcat : catS st ≤ 8) (h1 : 1 ≤ rc) (h2 : (ln h a).toNat ≤ rs) (h3 : rc - 1 = rc') (h4 : rs - (ln h a).toNat = rs') (K : Wp d rc' rs' m pc' ls (.inr (.inr (nx h)) :: st) (alc h a) q) : Wp d rc rs m pc ls (.inr (.inr a) :: st) h q := by
  subst hp; subst h3; subst h4; exact Wp_step hc ⟨ha, ht, hd, hcat, h1, h2, K⟩
theorem p_iret {n : Nat} {x : Int} (hc : codeAt m pc = some (.ireturn, n)) (hr : mR m = 1) (K : q (some (.inl x)) h) : Wp d rc rs m pc ls [.inl x] h q := Wp_step hc ⟨rfl, Or.inl hr, K⟩
theorem p_zret {n : Nat} {x : Int} (hc : codeAt m pc = some (.ireturn, n)) (hr : mR m = 4) (hx : x = 0 ∨ x = 1) (K : q (some (.inl x)) h) : Wp d rc rs m pc ls [.inl x] h q := Wp_step hc ⟨rfl, Or.inr ⟨hr, hx⟩, K⟩
theorem p_lret {n : Nat} {x : Int} (hc : codeAt m pc = some (.lreturn, n)) (hr : mR m = 2) (K : q (some (.inr (.inl x))) h) : Wp d rc rs m pc ls [.inr (.inl x)] h q := Wp_step hc ⟨rfl, hr, K⟩
theorem p_aret {n : Nat} {x : Int} (hc : codeAt m pc = some (.areturn, n)) (hr : mR m = 3) (K : q (some (.inr (.inr x))) h) : Wp d rc rs m pc ls [.inr (.inr x)] h q := Wp_step hc ⟨rfl, hr, K⟩
theorem p_ret {n : Nat} (hc : codeAt m pc = some (.return_, n)) (hr : mR m = 0) (K : q none h) : Wp d rc rs m pc ls [] h q := Wp_step hc ⟨rfl, hr, K⟩
end OPS
abbrev pQ : PP := fun d rc rs m pc ls st h q => ∀ q' : PQ, (∀ r h, q r h → q' r h) → Wp d rc rs m pc ls st h q'
theorem callP_post {k kind n d rc rs m pc : Nat} {ls : List (Option PV)} {st : List PV} {h : PH} {q q' : PQ} (hq : ∀ r h, q r h → q' r h) (H : callP pQ k kind n d rc rs m pc ls st h q) : callP Wp k kind n d rc rs m pc ls st h q' := by
  obtain ⟨a0, a1, a2, a3, a4, a5, a6, a7, a8, q1, b1, b2⟩ := H
  exact ⟨a0, a1, a2, a3, a4, a5, a6, a7, a8, q1, b1 q1 (fun _ _ z => z), fun r h' z => b2 r h' z q' hq⟩
set_option maxHeartbeats 4000000 in
theorem stp_post {i : Instr} {n d rc rs m pc : Nat} {ls : List (Option PV)} {st : List PV} {h : PH} {q q' : PQ} (hq : ∀ r h, q r h → q' r h) (H : stp pQ i n d rc rs m pc ls st h q) : stp Wp i n d rc rs m pc ls st h q' := by
  have hP' : ∀ {d rc rs m pc ls st h}, pQ d rc rs m pc ls st h q → Wp d rc rs m pc ls st h q' := fun z => z q' hq
  cases i
  case invokespecial k =>
    simp only [stp] at H ⊢
    split at H
    · rw [if_pos (by assumption)]; exact are_mono (fun _ _ z => ⟨z.1, z.2.1, z.2.2.1, hP' z.2.2.2⟩) H
    · rw [if_neg (by assumption)]; exact callP_post hq H
  case invokedynamic k =>
    simp only [stp] at H ⊢
    split at H
    · rw [if_pos (by assumption)]; exact are_mono (fun _ _ z => ⟨z.1, z.2.1, z.2.2.1, z.2.2.2.1, z.2.2.2.2.1, z.2.2.2.2.2.1, hP' z.2.2.2.2.2.2⟩) H
    rw [if_neg (by assumption)]
    split at H
    · rw [if_pos (by assumption)]; exact ar2_mono (fun _ _ _ z => ⟨z.1, z.2.1, hP' z.2.2⟩) H
    rw [if_neg (by assumption)]
    split at H
    · rw [if_pos (by assumption)]; exact al2l_mono (fun _ _ _ z => ⟨z.1, z.2.1, hP' z.2.2⟩) H
    rw [if_neg (by assumption)]
    split at H
    · rw [if_pos (by assumption)]; exact al2l_mono (fun _ _ _ z => ⟨z.1, z.2.1, hP' z.2.2⟩) H
    · rw [if_neg (by assumption)]
      exact ar2_mono (fun _ _ _ => are_mono fun _ _ => ai1_mono fun _ _ => are_mono fun _ _ ⟨z1, z2, z3, z4, z5, z6, z7, z8, z9, z10, z11, z12⟩ => ⟨z1, z2, z3, z4, z5, z6, z7, z8, z9, z10, z11, hP' z12⟩) H
  case anewarray k =>
    simp only [stp] at H ⊢
    exact ai1_mono (fun _ _ z => ⟨z.1, z.2.1, z.2.2.1, hP' z.2.2.2⟩) H
  case castore =>
    simp only [stp] at H ⊢
    exact ar2_mono (fun _ _ _ => are_mono fun _ _ z => ⟨z.1, z.2.1, z.2.2.1, z.2.2.2.1, z.2.2.2.2.1, z.2.2.2.2.2.1, hP' z.2.2.2.2.2.2⟩) H
  all_goals first
    | exact hP' H
    | exact H.elim
    | exact ai1_mono (fun _ _ z => ⟨z.1, z.2.1, hq _ _ z.2.2⟩) H
    | exact alo_mono (fun _ _ z => ⟨z.1, z.2.1, hq _ _ z.2.2⟩) H
    | exact are_mono (fun _ _ z => ⟨z.1, z.2.1, hq _ _ z.2.2⟩) H
    | exact ⟨H.1, H.2.1, hq _ _ H.2.2⟩
    | exact callP_post hq H
    | exact ar2_mono (fun _ _ _ z => hP' z) H
    | exact al2l_mono (fun _ _ _ z => hP' z) H
    | exact ai1_mono (fun _ _ z => hP' z) H
    | exact alo_mono (fun _ _ z => hP' z) H
    | exact ai1_mono (fun _ _ z => ⟨z.1, hP' z.2⟩) H
    | exact alo_mono (fun _ _ z => ⟨z.1, hP' z.2⟩) H
    | exact are_mono (fun _ _ z => ⟨z.1, hP' z.2⟩) H
    | exact ar2_mono (fun _ _ _ z => ⟨z.1, hP' z.2⟩) H
    | exact al2l_mono (fun _ _ _ z => ⟨z.1, hP' z.2⟩) H
    | exact ar2_mono (fun _ _ _ z => ⟨z.1, z.2.1, hP' z.2.2⟩) H
    | exact asl_mono (fun _ _ _ z => ⟨z.1, z.2.1, hP' z.2.2⟩) H
    | exact are_mono (fun _ _ z => ⟨z.1, z.2.1, hP' z.2.2⟩) H
    | exact lod_mono (fun _ => isI_mono fun _ z => hP' z) H
    | exact lod_mono (fun _ => isL_mono fun _ z => hP' z) H
    | exact lod_mono (fun _ => isR_mono fun _ z => hP' z) H
    | exact al2l_mono (fun _ _ _ z => ⟨fun e => hP' (z.1 e), fun e => hP' (z.2.1 e), fun e => hP' (z.2.2 e)⟩) H
    | exact ar2_mono (fun _ _ _ z => ⟨fun e => hP' (z.1 e), fun e => hP' (z.2 e)⟩) H
    | exact ai1_mono (fun _ _ z => ⟨fun e => hP' (z.1 e), fun e => hP' (z.2 e)⟩) H
    | exact are_mono (fun _ _ z => ⟨fun e => hP' (z.1 e), fun e => hP' (z.2 e)⟩) H
    | exact ai1_mono (fun _ _ => swt_mono fun _ z => hP' z) H
    | exact asr_mono (fun _ _ => are_mono fun _ _ z => ⟨z.1, z.2.1, isK_mono (fun _ w => hP' w) z.2.2⟩) H
    | exact ai1_mono (fun _ _ => are_mono fun _ _ ⟨z1, z2, z3, z4⟩ => ⟨z1, z2, z3, hP' z4⟩) H
    | exact ar2_mono (fun _ _ _ => are_mono fun _ _ ⟨z1, z2, z3, z4, z5⟩ => ⟨z1, z2, z3, z4, hP' z5⟩) H
    | exact alo_mono (fun _ _ => ai1_mono fun _ _ => are_mono fun _ _ ⟨z1, z2, z3, z4, z5⟩ => ⟨z1, z2, z3, z4, hP' z5⟩) H
    | exact ar2_mono (fun _ _ _ => are_mono fun _ _ ⟨z1, z2, z3, z4, z5, z6, z7⟩ => ⟨z1, z2, z3, z4, z5, z6, hP' z7⟩) H
    | exact are_mono (fun _ _ => ai1_mono fun _ _ => are_mono fun _ _ ⟨z1, z2, z3, z4, z5, z6⟩ => ⟨z1, z2, z3, z4, z5, hP' z6⟩) H
    | exact ⟨H.1, H.2.1, H.2.2.1, hP' H.2.2.2⟩
    | exact ai1_mono (fun _ _ ⟨z1, z2, z3, z4, z5⟩ => ⟨z1, z2, z3, z4, hP' z5⟩) H
    | exact ai1_mono (fun _ _ ⟨z1, z2, z3, z4⟩ => ⟨z1, z2, z3, hP' z4⟩) H
    | exact ar2_mono (fun _ _ _ ⟨z1, z2, z3, z4, z5, z6⟩ => ⟨z1, z2, z3, z4, z5, hP' z6⟩) H
    | exact asr_mono (fun _ _ z => ⟨z.1, hP' z.2⟩) H
    | exact asr_mono (fun _ _ => asr_mono fun _ _ z => ⟨z.1, z.2.1, hP' z.2.2⟩) H
/-- an end may be weakened -/
theorem Wp_post {d rc rs m pc : Nat} {ls : List (Option PV)} {st : List PV} {h : PH} {q q' : PQ} (H : Wp d rc rs m pc ls st h q) (hq : ∀ r h, q r h → q' r h) : Wp d rc rs m pc ls st h q' := by
  have hc : pLe (pF pQ) pQ := by
    intro d rc rs m pc ls st h q H q' hq
    refine Wp_fold ?_
    unfold pF at *
    cases hcode : codeAt m pc with
    | none => rw [hcode] at H; exact H.elim
    | some x => rw [hcode] at H; exact stp_post hq H
  exact H _ hc q' hq
