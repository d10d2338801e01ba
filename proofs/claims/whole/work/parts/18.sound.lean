/-! SOUNDNESS, 6: all together -/
theorem ar2_e {st : List PV} {K : Int → Int → List PV → Prop} (H : ar2 st K) : ∃ x y r, st = .inl y :: .inl x :: r ∧ K x y r := by
  unfold ar2 at H; split at H
  · exact ⟨_, _, _, rfl, H⟩
  · exact H.elim
theorem al2l_e {st : List PV} {K : Int → Int → List PV → Prop} (H : al2l st K) : ∃ x y r, st = .inr (.inl y) :: .inr (.inl x) :: r ∧ K x y r := by
  unfold al2l at H; split at H
  · exact ⟨_, _, _, rfl, H⟩
  · exact H.elim
theorem asl_e {st : List PV} {K : Int → Int → List PV → Prop} (H : asl st K) : ∃ x y r, st = .inl y :: .inr (.inl x) :: r ∧ K x y r := by
  unfold asl at H; split at H
  · exact ⟨_, _, _, rfl, H⟩
  · exact H.elim
theorem ai1_e {st : List PV} {K : Int → List PV → Prop} (H : ai1 st K) : ∃ x r, st = .inl x :: r ∧ K x r := by
  unfold ai1 at H; split at H
  · exact ⟨_, _, rfl, H⟩
  · exact H.elim
theorem alo_e {st : List PV} {K : Int → List PV → Prop} (H : alo st K) : ∃ x r, st = .inr (.inl x) :: r ∧ K x r := by
  unfold alo at H; split at H
  · exact ⟨_, _, rfl, H⟩
  · exact H.elim
theorem are_e {st : List PV} {K : Int → List PV → Prop} (H : are st K) : ∃ x r, st = .inr (.inr x) :: r ∧ K x r := by
  unfold are at H; split at H
  · exact ⟨_, _, rfl, H⟩
  · exact H.elim
theorem asr_e {st : List PV} {K : PV → List PV → Prop} (H : asr st K) : ∃ x r, st = x :: r ∧ K x r := by
  unfold asr at H; split at H
  · exact ⟨_, _, rfl, H⟩
  · exact H.elim
theorem lodI_e {ls : List (Option PV)} {k : Nat} {K : Int → Prop} (H : lod ls k fun v => isI v K) : ∃ x, ls[k]? = some (some (.inl x)) ∧ K x := by
  unfold lod at H; split at H
  · rename_i v hv
    unfold isI at H; split at H
    · exact ⟨_, hv, H⟩
    · exact H.elim
  · exact H.elim
theorem lodL_e {ls : List (Option PV)} {k : Nat} {K : Int → Prop} (H : lod ls k fun v => isL v K) : ∃ x, ls[k]? = some (some (.inr (.inl x))) ∧ K x := by
  unfold lod at H; split at H
  · rename_i v hv
    unfold isL at H; split at H
    · exact ⟨_, hv, H⟩
    · exact H.elim
  · exact H.elim
theorem lodR_e {ls : List (Option PV)} {k : Nat} {K : Int → Prop} (H : lod ls k fun v => isR v K) : ∃ x, ls[k]? = some (some (.inr (.inr x))) ∧ K x := by
  unfold lod at H; split at H
  · rename_i v hv
    unfold isR at H; split at H
    · exact ⟨_, hv, H⟩
    · exact H.elim
  · exact H.elim
theorem isK_e {k : Nat} {v : PV} {K : Int → Prop} (H : isK k v K) : ∃ x, v = mkv k x ∧ (k = 3 → x = 0 ∨ x = 1) ∧ K x := by
  unfold isK at H; split at H
  · unfold isI at H; split at H
    · exact ⟨_, rfl, fun z => (by cases z), H⟩
    · exact H.elim
  · unfold isL at H; split at H
    · exact ⟨_, rfl, fun z => (by cases z), H⟩
    · exact H.elim
  · unfold isR at H; split at H
    · exact ⟨_, rfl, fun z => (by cases z), H⟩
    · exact H.elim
  · unfold isI at H; split at H
    · exact ⟨_, rfl, fun _ => H.1, H.2⟩
    · exact H.elim
  · exact H.elim
theorem ite_e {α : Type} {c : Prop} [Decidable c] {a i : α} (h : (if c then some a else none) = some i) : c ∧ a = i := by
  split at h
  · exact ⟨by assumption, Option.some.inj h⟩
  · cases h
theorem swt_l {x : Int} {K : Int → Prop} {pc : Nat} {d : Int} : ∀ {l : List (Int × Int)}, swt x K (pc + d) (dsw pc l) → (0 ≤ pc + d) → (l.all (fun e => decide (0 ≤ pc + e.2 ∧ -2147483648 ≤ e.1 ∧ e.1 < 2147483648)) = true) → K (pc + Op.lookupswitch.offset l d x) ∧ 0 ≤ pc + Op.lookupswitch.offset l d x
  | [], H, h0, _ => ⟨H, h0⟩
  | (a, o) :: r, H, h0, ha => by
    simp only [List.all_cons, Bool.and_eq_true, decide_eq_true_eq] at ha
    unfold Op.lookupswitch.offset
    by_cases hx : x = a
    · rw [if_pos hx.symm]; exact ⟨H.1 hx, ha.1.1⟩
    · rw [if_neg (fun z => hx z.symm)]
      exact swt_l (l := r) (H.2 hx) h0 ha.2
theorem swt_t {x : Int} {K : Int → Prop} {pc : Nat} {d : Int} : ∀ {l : List Int} {lo : Int}, swt x K (pc + d) (tsw pc lo l) → (0 ≤ pc + d) → (l.all (fun e => decide (0 ≤ pc + e)) = true) →
    (lo ≤ x → x < lo + l.length → ∃ o, l[(x - lo).toNat]? = some o ∧ K (pc + o) ∧ 0 ≤ pc + o) ∧ ((x < lo ∨ lo + l.length ≤ x) → K (pc + d))
  | [], lo, H, h0, _ => ⟨fun a b => by simp at b; omega, fun _ => H⟩
  | o :: r, lo, H, h0, ha => by
    simp only [List.all_cons, Bool.and_eq_true, decide_eq_true_eq] at ha
    refine ⟨fun a b => ?_, fun a => ?_⟩
    · by_cases hx : x = lo
      · refine ⟨o, ?_, H.1 hx, ha.1⟩
        rw [show (x - lo).toNat = 0 by omega]; rfl
      · obtain ⟨o', e1, e2, e3⟩ := (swt_t (l := r) (lo := lo + 1) (H.2 hx) h0 ha.2).1 (by omega) (by rw [List.length_cons] at b; omega)
        refine ⟨o', ?_, e2, e3⟩
        rw [show (x - lo).toNat = (x - (lo + 1)).toNat + 1 by omega]
        exact e1
    · have hx : x ≠ lo := by rw [List.length_cons] at a; omega
      exact (swt_t (l := r) (lo := lo + 1) (H.2 hx) h0 ha.2).2 (by rw [List.length_cons] at a; omega)
section SND
variable {l : Launch} {D : va_G} {dA : Nat → ClassId} {bs sb : Nat} {scr : Cell} {p : Program} {e : Env} {R : Room} {s : State} {m : MethodId} {args : Array Value} {below : List Frame} {meth : Method} {c : Code} {mc ms d rc rs mth pc : Nat} {ls : List (Option PV)} {r : List PV} {h : PH} {q : PQ}
theorem s_lookup (B : Bx D dA bs scr p R s m meth c mc ms d mth) {x dl : Int} {ps : Array (Int × Int)} {n : Nat} (hp : (ps.toList.zip (ps.toList.drop 1)).all (fun (a, next) => decide (a.1 < next.1)) = true) (h0 : 0 ≤ pc + dl) (ha : (ps.toList.all (fun e => decide (0 ≤ pc + e.2 ∧ -2147483648 ≤ e.1 ∧ e.1 < 2147483648))) = true) (hd : decode (minf mth).2.1 pc = .ok (.lookupswitch dl ps, n))
    (K : swt x (fun t => Wc l D dA bs sb scr p e R s m args below meth c mc ms rc rs mth t.toNat ls r h q) (pc + dl) (dsw pc ps.toList)) : Wc l D dA bs sb scr p e R s m args below meth c mc ms rc rs mth pc ls (.inl x :: r) h q := by
  intro H locs cells slots L hR hz hlo hc hs hL hst
  obtain ⟨hx, hst⟩ := ok_1 hst
  obtain ⟨k1, k2⟩ := swt_l K h0 ha
  exact lv_lookup (tgt := (pc + Op.lookupswitch.offset ps.toList dl x).toNat) B.1 B.2.1 hd hp (by rw [o32 hx]) (by omega) (k1 H locs cells slots L hR hz hlo hc hs hL hst)
theorem s_table (B : Bx D dA bs scr p R s m meth c mc ms d mth) {x dl lo hi : Int} {os : Array Int} {n : Nat} (hh : lo + os.toList.length = hi + 1) (h0 : 0 ≤ pc + dl) (ha : (os.toList.all (fun e => decide (0 ≤ pc + e))) = true) (hd : decode (minf mth).2.1 pc = .ok (.tableswitch dl lo hi os, n))
    (K : swt x (fun t => Wc l D dA bs sb scr p e R s m args below meth c mc ms rc rs mth t.toNat ls r h q) (pc + dl) (tsw pc lo os.toList)) : Wc l D dA bs sb scr p e R s m args below meth c mc ms rc rs mth pc ls (.inl x :: r) h q := by
  intro H locs cells slots L hR hz hlo hc hs hL hst
  obtain ⟨hx, hst⟩ := ok_1 hst
  obtain ⟨k1, k2⟩ := swt_t K h0 ha
  by_cases hin : lo ≤ x ∧ x ≤ hi
  · obtain ⟨o, e1, e2, e3⟩ := k1 hin.1 (by omega)
    exact lv_tableIn (tgt := (pc + o).toNat) B.1 B.2.1 hd (by rw [o32 hx]; omega) (by rw [o32 hx]; omega) (by rw [o32 hx, ← Array.getElem?_toList]; exact e1) (by omega) (e2 H locs cells slots L hR hz hlo hc hs hL hst)
  · exact lv_tableOut (tgt := (pc + dl).toNat) B.1 B.2.1 hd (by rw [o32 hx]; omega) (by omega) (k2 (by omega) H locs cells slots L hR hz hlo hc hs hL hst)
set_option maxHeartbeats 4000000 in
theorem sound : pLe (pF (Wsem l D dA bs sb scr)) (Wsem l D dA bs sb scr) := by
  intro d rc rs mth pc ls st h q H p e R s m args below meth c mc ms B
  unfold pF at H
  cases hc : codeAt mth pc with
  | none => rw [hc] at H; exact H.elim
  | some x =>
    obtain ⟨i, n⟩ := x
    rw [hc] at H
    obtain ⟨raw, hd, hn, hcv⟩ := code_raw B.2.2.2.2.2.2.2.2.2.2.2.2.2.2 hc
    replace H : stp (Wsem l D dA bs sb scr) i n d rc rs mth pc ls st h q := H
    have G : ∀ {rc rs pc : Nat} {ls : List (Option PV)} {st : List PV} {h : PH}, Wsem l D dA bs sb scr d rc rs mth pc ls st h q → Wc l D dA bs sb scr p e R s m args below meth c mc ms rc rs mth pc ls st h q := fun K => K p e R s m args below meth c mc ms B
    cases raw
    case iconst k =>
      obtain ⟨hk, rfl⟩ := ite_e hcv
      obtain rfl : n = 1 := hn
      exact s_iconst B hk hd (G H)
    case bipush k =>
      obtain ⟨hk, rfl⟩ := ite_e hcv
      obtain rfl : n = 2 := hn
      exact s_bipush B hk hd (G H)
    case sipush k =>
      obtain ⟨hk, rfl⟩ := ite_e hcv
      obtain rfl : n = 3 := hn
      exact s_sipush B hk hd (G H)
    case lconst k =>
      obtain rfl : .sipush ((k : Nat) : Int) = i := Option.some.inj hcv
      obtain rfl : n = 1 := hn
      exact s_lconst B hd (G H)
    case ldc k =>
      obtain ⟨f, hf, rfl⟩ := Option.map_eq_some_iff.mp hcv
      obtain rfl : n = 2 := hn
      exact s_ldc B hf hd (G H)
    case ldc_w k =>
      obtain ⟨f, hf, rfl⟩ := Option.map_eq_some_iff.mp hcv
      obtain rfl : n = 3 := hn
      exact s_ldcw B hf hd (G H)
    case ldc2_w k =>
      obtain ⟨f, hf, rfl⟩ := Option.map_eq_some_iff.mp hcv
      obtain rfl : n = 3 := hn
      exact s_ldc2 B hf hd (G H)
    case aconst_null =>
      obtain rfl : .aconst_null = i := Option.some.inj hcv
      obtain rfl : n = 1 := hn
      exact s_null B hd (G H)
    case iload k =>
      obtain rfl : .iload k = i := Option.some.inj hcv
      obtain rfl : n = 2 := hn
      obtain ⟨x, hx, H⟩ := lodI_e H
      exact s_iload B hx hd (G H)
    case iload_n k =>
      obtain rfl : .iload (k : Nat) = i := Option.some.inj hcv
      obtain rfl : n = 1 := hn
      obtain ⟨x, hx, H⟩ := lodI_e H
      exact s_iload_n B hx hd (G H)
    case lload k =>
      obtain rfl : .lload k = i := Option.some.inj hcv
      obtain rfl : n = 2 := hn
      obtain ⟨x, hx, H⟩ := lodL_e H
      exact s_lload B hx hd (G H)
    case lload_n k =>
      obtain rfl : .lload (k : Nat) = i := Option.some.inj hcv
      obtain rfl : n = 1 := hn
      obtain ⟨x, hx, H⟩ := lodL_e H
      exact s_lload_n B hx hd (G H)
    case aload k =>
      obtain rfl : .aload k = i := Option.some.inj hcv
      obtain rfl : n = 2 := hn
      obtain ⟨x, hx, H⟩ := lodR_e H
      exact s_aload B hx hd (G H)
    case aload_n k =>
      obtain rfl : .aload (k : Nat) = i := Option.some.inj hcv
      obtain rfl : n = 1 := hn
      obtain ⟨x, hx, H⟩ := lodR_e H
      exact s_aload_n B hx hd (G H)
    case istore k =>
      obtain rfl : .istore k = i := Option.some.inj hcv
      obtain rfl : n = 2 := hn
      obtain ⟨x, r, rfl, hk, H⟩ := ai1_e H
      exact s_istore B hk hd (G H)
    case istore_n k =>
      obtain rfl : .istore (k : Nat) = i := Option.some.inj hcv
      obtain rfl : n = 1 := hn
      obtain ⟨x, r, rfl, hk, H⟩ := ai1_e H
      exact s_istore_n B hk hd (G H)
    case lstore k =>
      obtain rfl : .lstore k = i := Option.some.inj hcv
      obtain rfl : n = 2 := hn
      obtain ⟨x, r, rfl, hk, H⟩ := alo_e H
      exact s_lstore B hk hd (G H)
    case lstore_n k =>
      obtain rfl : .lstore (k : Nat) = i := Option.some.inj hcv
      obtain rfl : n = 1 := hn
      obtain ⟨x, r, rfl, hk, H⟩ := alo_e H
      exact s_lstore_n B hk hd (G H)
    case astore k =>
      obtain rfl : .astore k = i := Option.some.inj hcv
      obtain rfl : n = 2 := hn
      obtain ⟨x, r, rfl, hk, H⟩ := are_e H
      exact s_astore B hk hd (G H)
    case astore_n k =>
      obtain rfl : .astore (k : Nat) = i := Option.some.inj hcv
      obtain rfl : n = 1 := hn
      obtain ⟨x, r, rfl, hk, H⟩ := are_e H
      exact s_astore_n B hk hd (G H)
    case iinc k z =>
      obtain rfl : .iinc k z = i := Option.some.inj hcv
      obtain rfl : n = 3 := hn
      obtain ⟨x, hx, H⟩ := lodI_e H
      exact s_iinc B hx hd (G H)
    case iadd =>
      obtain rfl : .iadd = i := Option.some.inj hcv
      obtain rfl : n = 1 := hn
      obtain ⟨x, y, r, rfl, H⟩ := ar2_e H
      exact s_iadd B hd (G H)
    case isub =>
      obtain rfl : .isub = i := Option.some.inj hcv
      obtain rfl : n = 1 := hn
      obtain ⟨x, y, r, rfl, H⟩ := ar2_e H
      exact s_isub B hd (G H)
    case imul =>
      obtain rfl : .imul = i := Option.some.inj hcv
      obtain rfl : n = 1 := hn
      obtain ⟨x, y, r, rfl, H⟩ := ar2_e H
      exact s_imul B hd (G H)
    case iand =>
      obtain rfl : .iand = i := Option.some.inj hcv
      obtain rfl : n = 1 := hn
      obtain ⟨x, y, r, rfl, H⟩ := ar2_e H
      exact s_iand B hd (G H)
    case ior =>
      obtain rfl : .ior = i := Option.some.inj hcv
      obtain rfl : n = 1 := hn
      obtain ⟨x, y, r, rfl, H⟩ := ar2_e H
      exact s_ior B hd (G H)
    case ladd =>
      obtain rfl : .ladd = i := Option.some.inj hcv
      obtain rfl : n = 1 := hn
      obtain ⟨x, y, r, rfl, H⟩ := al2l_e H
      exact s_ladd B hd (G H)
    case lsub =>
      obtain rfl : .lsub = i := Option.some.inj hcv
      obtain rfl : n = 1 := hn
      obtain ⟨x, y, r, rfl, H⟩ := al2l_e H
      exact s_lsub B hd (G H)
    case lmul =>
      obtain rfl : .lmul = i := Option.some.inj hcv
      obtain rfl : n = 1 := hn
      obtain ⟨x, y, r, rfl, H⟩ := al2l_e H
      exact s_lmul B hd (G H)
    case land =>
      obtain rfl : .land = i := Option.some.inj hcv
      obtain rfl : n = 1 := hn
      obtain ⟨x, y, r, rfl, H⟩ := al2l_e H
      exact s_land B hd (G H)
    case lor =>
      obtain rfl : .lor = i := Option.some.inj hcv
      obtain rfl : n = 1 := hn
      obtain ⟨x, y, r, rfl, H⟩ := al2l_e H
      exact s_lor B hd (G H)
    case lxor =>
      obtain rfl : .lxor = i := Option.some.inj hcv
      obtain rfl : n = 1 := hn
      obtain ⟨x, y, r, rfl, H⟩ := al2l_e H
      exact s_lxor B hd (G H)
    case idiv =>
      obtain rfl : .idiv = i := Option.some.inj hcv
      obtain rfl : n = 1 := hn
      obtain ⟨x, y, r, rfl, hy, H⟩ := ar2_e H
      exact s_idiv B hy hd (G H)
    case irem =>
      obtain rfl : .irem = i := Option.some.inj hcv
      obtain rfl : n = 1 := hn
      obtain ⟨x, y, r, rfl, hy, H⟩ := ar2_e H
      exact s_irem B hy hd (G H)
    case ldiv =>
      obtain rfl : .ldiv = i := Option.some.inj hcv
      obtain rfl : n = 1 := hn
      obtain ⟨x, y, r, rfl, hy, H⟩ := al2l_e H
      exact s_ldiv B hy hd (G H)
    case lrem =>
      obtain rfl : .lrem = i := Option.some.inj hcv
      obtain rfl : n = 1 := hn
      obtain ⟨x, y, r, rfl, hy, H⟩ := al2l_e H
      exact s_lrem B hy hd (G H)
    case ishl =>
      obtain rfl : .ishl = i := Option.some.inj hcv
      obtain rfl : n = 1 := hn
      obtain ⟨x, y, r, rfl, h0, h1, H⟩ := ar2_e H
      exact s_ishl B h0 h1 hd (G H)
    case ishr =>
      obtain rfl : .ishr = i := Option.some.inj hcv
      obtain rfl : n = 1 := hn
      obtain ⟨x, y, r, rfl, h0, h1, H⟩ := ar2_e H
      exact s_ishr B h0 h1 hd (G H)
    case iushr =>
      obtain rfl : .iushr = i := Option.some.inj hcv
      obtain rfl : n = 1 := hn
      obtain ⟨x, y, r, rfl, h0, h1, H⟩ := ar2_e H
      exact s_iushr B h0 h1 hd (G H)
    case lshl =>
      obtain rfl : .lshl = i := Option.some.inj hcv
      obtain rfl : n = 1 := hn
      obtain ⟨x, y, r, rfl, h0, h1, H⟩ := asl_e H
      exact s_lshl B h0 h1 hd (G H)
    case lshr =>
      obtain rfl : .lshr = i := Option.some.inj hcv
      obtain rfl : n = 1 := hn
      obtain ⟨x, y, r, rfl, h0, h1, H⟩ := asl_e H
      exact s_lshr B h0 h1 hd (G H)
    case lushr =>
      obtain rfl : .lushr = i := Option.some.inj hcv
      obtain rfl : n = 1 := hn
      obtain ⟨x, y, r, rfl, h0, h1, H⟩ := asl_e H
      exact s_lushr B h0 h1 hd (G H)
    case lcmp =>
      obtain rfl : .lcmp = i := Option.some.inj hcv
      obtain rfl : n = 1 := hn
      obtain ⟨x, y, r, rfl, H⟩ := al2l_e H
      exact s_lcmp B hd ⟨fun z => G (H.1 z), fun z => G (H.2.1 z), fun z => G (H.2.2 z)⟩
    case i2l =>
      obtain rfl : .i2l = i := Option.some.inj hcv
      obtain rfl : n = 1 := hn
      obtain ⟨x, r, rfl, H⟩ := ai1_e H
      exact s_i2l B hd (G H)
    case l2i =>
      obtain rfl : .l2i = i := Option.some.inj hcv
      obtain rfl : n = 1 := hn
      obtain ⟨x, r, rfl, H⟩ := alo_e H
      exact s_l2i B hd (G H)
    case i2b =>
      obtain rfl : .i2b = i := Option.some.inj hcv
      obtain rfl : n = 1 := hn
      obtain ⟨x, r, rfl, H⟩ := ai1_e H
      exact s_i2b B hd (G H)
    case ifCond cn o =>
      obtain ⟨hk, rfl⟩ := ite_e hcv
      obtain rfl : n = 3 := hn
      obtain ⟨x, r, rfl, H⟩ := ai1_e H
      cases cn
      case eq => exact s_if_eq B hk hd ⟨fun z => G (H.1 z), fun z => G (H.2 z)⟩
      case ne => exact s_if_ne B hk hd ⟨fun z => G (H.1 z), fun z => G (H.2 z)⟩
      case lt => exact s_if_lt B hk hd ⟨fun z => G (H.1 z), fun z => G (H.2 z)⟩
      case ge => exact s_if_ge B hk hd ⟨fun z => G (H.1 z), fun z => G (H.2 z)⟩
      case gt => exact s_if_gt B hk hd ⟨fun z => G (H.1 z), fun z => G (H.2 z)⟩
      case le => exact s_if_le B hk hd ⟨fun z => G (H.1 z), fun z => G (H.2 z)⟩
    case if_icmp cn o =>
      obtain ⟨hk, rfl⟩ := ite_e hcv
      obtain rfl : n = 3 := hn
      obtain ⟨x, y, r, rfl, H⟩ := ar2_e H
      cases cn
      case eq => exact s_icmp_eq B hk hd ⟨fun z => G (H.1 z), fun z => G (H.2 z)⟩
      case ne => exact s_icmp_ne B hk hd ⟨fun z => G (H.1 z), fun z => G (H.2 z)⟩
      case lt => exact s_icmp_lt B hk hd ⟨fun z => G (H.1 z), fun z => G (H.2 z)⟩
      case ge => exact s_icmp_ge B hk hd ⟨fun z => G (H.1 z), fun z => G (H.2 z)⟩
      case gt => exact s_icmp_gt B hk hd ⟨fun z => G (H.1 z), fun z => G (H.2 z)⟩
      case le => exact s_icmp_le B hk hd ⟨fun z => G (H.1 z), fun z => G (H.2 z)⟩
    case goto o =>
      obtain ⟨hk, rfl⟩ := ite_e hcv
      obtain rfl : n = 3 := hn
      exact s_goto B hk hd (G H)
    case ifnull o =>
      obtain ⟨hk, rfl⟩ := ite_e hcv
      obtain rfl : n = 3 := hn
      obtain ⟨x, r, rfl, H⟩ := are_e H
      exact s_ifnull B hk hd ⟨fun z => G (H.1 z), fun z => G (H.2 z)⟩
    case ifnonnull o =>
      obtain ⟨hk, rfl⟩ := ite_e hcv
      obtain rfl : n = 3 := hn
      obtain ⟨x, r, rfl, H⟩ := are_e H
      exact s_ifnonnull B hk hd ⟨fun z => G (H.1 z), fun z => G (H.2 z)⟩
    case lookupswitch dl ps =>
      obtain ⟨⟨g1, g2, g3⟩, rfl⟩ := ite_e hcv
      obtain ⟨x, r, rfl, H⟩ := ai1_e H
      rw [List.toList_toArray] at H
      exact s_lookup B g1 g2 g3 hd (swt_mono (fun t z => G z) H)
    case tableswitch dl lo hi os =>
      obtain ⟨⟨g1, g2, g3⟩, rfl⟩ := ite_e hcv
      obtain ⟨x, r, rfl, H⟩ := ai1_e H
      rw [List.toList_toArray] at H
      exact s_table B g1 g2 g3 hd (swt_mono (fun t z => G z) H)
    case getfield k =>
      obtain ⟨f, hf, rfl⟩ := Option.map_eq_some_iff.mp hcv
      obtain rfl : n = 3 := hn
      obtain ⟨x, r, rfl, ht, H⟩ := are_e H
      exact s_getfield B hf ht hd (G H)
    case putfield k =>
      obtain ⟨f, hf, rfl⟩ := Option.map_eq_some_iff.mp hcv
      obtain rfl : n = 3 := hn
      obtain ⟨v, r, rfl, H⟩ := asr_e H
      obtain ⟨a, r, rfl, ht, hff, H⟩ := are_e H
      obtain ⟨x, rfl, h3, H⟩ := isK_e H
      exact s_putfield B hf ht hff h3 hd (G H)
    case iaload =>
      obtain rfl : .iaload = i := Option.some.inj hcv
      obtain rfl : n = 1 := hn
      obtain ⟨j, r, rfl, H⟩ := ai1_e H
      obtain ⟨a, r, rfl, ht, h0, h1, H⟩ := are_e H
      exact s_iaload B ht h0 h1 hd (G H)
    case laload =>
      obtain rfl : .laload = i := Option.some.inj hcv
      obtain rfl : n = 1 := hn
      obtain ⟨j, r, rfl, H⟩ := ai1_e H
      obtain ⟨a, r, rfl, ht, h0, h1, H⟩ := are_e H
      exact s_laload B ht h0 h1 hd (G H)
    case caload =>
      obtain rfl : .caload = i := Option.some.inj hcv
      obtain rfl : n = 1 := hn
      obtain ⟨j, r, rfl, H⟩ := ai1_e H
      obtain ⟨a, r, rfl, ht, h0, h1, H⟩ := are_e H
      exact s_caload B ht h0 h1 hd (G H)
    case baload =>
      obtain rfl : .baload = i := Option.some.inj hcv
      obtain rfl : n = 1 := hn
      obtain ⟨j, r, rfl, H⟩ := ai1_e H
      obtain ⟨a, r, rfl, ht, h0, h1, H⟩ := are_e H
      rcases ht with ht | ht
      · exact s_baload B ht h0 h1 hd (G H)
      · exact s_zaload B ht h0 h1 hd (G H)
    case aaload =>
      obtain rfl : .aaload = i := Option.some.inj hcv
      obtain rfl : n = 1 := hn
      obtain ⟨j, r, rfl, H⟩ := ai1_e H
      obtain ⟨a, r, rfl, ht, h0, h1, H⟩ := are_e H
      rcases ht with ht | ht
      · exact s_aaload B ht h0 h1 hd (G H)
      · exact s_aaload2 B ht h0 h1 hd (G H)
    case iastore =>
      obtain rfl : .iastore = i := Option.some.inj hcv
      obtain rfl : n = 1 := hn
      obtain ⟨j, x, r, rfl, H⟩ := ar2_e H
      obtain ⟨a, r, rfl, ha, ht, h0, h1, H⟩ := are_e H
      exact s_iastore B ha ht h0 h1 hd (G H)
    case lastore =>
      obtain rfl : .lastore = i := Option.some.inj hcv
      obtain rfl : n = 1 := hn
      obtain ⟨x, r, rfl, H⟩ := alo_e H
      obtain ⟨j, r, rfl, H⟩ := ai1_e H
      obtain ⟨a, r, rfl, ha, ht, h0, h1, H⟩ := are_e H
      exact s_lastore B ha ht h0 h1 hd (G H)
    case bastore =>
      obtain rfl : .bastore = i := Option.some.inj hcv
      obtain rfl : n = 1 := hn
      obtain ⟨j, x, r, rfl, H⟩ := ar2_e H
      obtain ⟨a, r, rfl, ha, ht, h0, h1, H⟩ := are_e H
      rcases ht with ⟨ht, hb⟩ | ⟨ht, hb⟩
      · exact s_bastore B ha ht hb h0 h1 hd (G H)
      · exact s_zastore B ha ht hb h0 h1 hd (G H)
    case castore =>
      obtain rfl : .castore = i := Option.some.inj hcv
      obtain rfl : n = 1 := hn
      obtain ⟨j, x, r, rfl, H⟩ := ar2_e H
      obtain ⟨a, r, rfl, ha, ht, hx0, hx1, h0, h1, H⟩ := are_e H
      exact s_castore B ha ht ⟨hx0, hx1⟩ h0 h1 hd (G H)
    case aastore =>
      obtain rfl : .aastore = i := Option.some.inj hcv
      obtain rfl : n = 1 := hn
      obtain ⟨x, r, rfl, H⟩ := are_e H
      obtain ⟨j, r, rfl, H⟩ := ai1_e H
      obtain ⟨a, r, rfl, ha, ht, hx1, h0, h1, H⟩ := are_e H
      exact s_aastore B ha ht hx1 h0 h1 hd (G H)
    case arraylength =>
      obtain rfl : .arraylength = i := Option.some.inj hcv
      obtain rfl : n = 1 := hn
      obtain ⟨a, r, rfl, ht, H⟩ := are_e H
      exact s_alen B ht hd (G H)
    case new k =>
      obtain ⟨f, hf, rfl⟩ := Option.map_eq_some_iff.mp hcv
      obtain rfl : n = 3 := hn
      obtain ⟨-, h1, h2, H⟩ := H
      exact s_new B hf h1 h2 hd (G H)
    case newarray t =>
      obtain rfl : .newarray t = i := Option.some.inj hcv
      obtain rfl : n = 2 := hn
      obtain ⟨k, r, rfl, h0, hk, h1, h2, H⟩ := ai1_e H
      exact s_newarray B h0 hk h1 h2 hd (G H)
    case anewarray k =>
      obtain ⟨hk, rfl⟩ := ite_e hcv
      obtain rfl : n = 3 := hn
      obtain ⟨k, r, rfl, hk0, h1, h2, H⟩ := ai1_e H
      exact s_anewarray B hk hk0 h1 h2 hd (G H)
    case multianewarray k dm =>
      match dm, hcv, hd with
      | 2, hcv, hd =>
        obtain ⟨hk, rfl⟩ := ite_e hcv
        obtain rfl : n = 4 := hn
        obtain ⟨j, k, r, rfl, h0, h1, h6, h2, h3, H⟩ := ar2_e H
        exact s_multi B hk h0 h1 h6 h2 h3 hd (G H)
      | 0, hcv, _ => cases hcv
      | 1, hcv, _ => cases hcv
      | _ + 3, hcv, _ => cases hcv
    case checkcast k =>
      obtain ⟨hk, rfl⟩ := ite_e hcv
      obtain rfl : n = 3 := hn
      obtain ⟨a, r, rfl, ha, ht, H⟩ := are_e H
      exact s_checkcast B hk ha ht hd (G H)
    case dup =>
      obtain rfl : .dup = i := Option.some.inj hcv
      obtain rfl : n = 1 := hn
      obtain ⟨v, r, rfl, hv, H⟩ := asr_e H
      exact s_dup B hv hd (G H)
    case dup2 =>
      obtain rfl : .dup2 = i := Option.some.inj hcv
      obtain rfl : n = 1 := hn
      obtain ⟨v, r, rfl, H⟩ := asr_e H
      obtain ⟨w, r, rfl, hv, hw, H⟩ := asr_e H
      exact s_dup2 B hv hw hd (G H)
    case pop =>
      obtain rfl : .pop = i := Option.some.inj hcv
      obtain rfl : n = 1 := hn
      obtain ⟨v, r, rfl, hv, H⟩ := asr_e H
      exact s_pop B hv hd (G H)
    case invokestatic k =>
      obtain rfl : n = 3 := hn
      replace hcv : (if lkO3 (mC mth) k lkA = true then some (.invokedynamic 1) else if lkO3 (mC mth) k lkX2 = true then some (.invokedynamic 2) else if lkO3 (mC mth) k lkX3 = true then some (.invokedynamic 3) else if lkO3 (mC mth) k lkX4 = true then some (.invokedynamic 4) else (lkF3 (mC mth) k lkM).map .invokestatic) = some i := hcv
      split at hcv
      · rename_i hk
        cases hcv
        obtain ⟨dp, k, r, rfl, H⟩ := ar2_e H
        obtain ⟨b, r, rfl, H⟩ := are_e H
        obtain ⟨sp, r, rfl, H⟩ := ai1_e H
        obtain ⟨a, r, rfl, z1, z2, z3, z4, z5, z6, z7, z8, z9, z10, z11, H⟩ := are_e H
        exact s_copy B hk z1 z2 z3 z4 z5 z6 z7 z8 z9 z10 z11 hd (G H)
      split at hcv
      · rename_i _ hk
        cases hcv
        obtain ⟨x, y, r, rfl, z1, z2, H⟩ := ar2_e H
        exact s_mini B hk z1 z2 hd (G H)
      split at hcv
      · rename_i _ _ hk
        cases hcv
        obtain ⟨x, y, r, rfl, z1, z2, H⟩ := al2l_e H
        exact s_maxl B hk z1 z2 hd (G H)
      split at hcv
      · rename_i _ _ _ hk
        cases hcv
        obtain ⟨x, y, r, rfl, z1, z2, H⟩ := al2l_e H
        exact s_minl B hk z1 z2 hd (G H)
      obtain ⟨f, hf, rfl⟩ := Option.map_eq_some_iff.mp hcv
      exact s_static B hf hd H
    case invokevirtual k =>
      obtain rfl : n = 3 := hn
      replace hcv : (if lkO3 (mC mth) k lkN = true then some (.invokedynamic 0) else (lkF3 (mC mth) k lkM).map .invokevirtual) = some i := hcv
      split at hcv
      · rename_i hk
        cases hcv
        obtain ⟨a, r, rfl, z1, z2, z3, z4, z5, z6, H⟩ := are_e H
        exact s_clone B hk z1 z2 z3 z4 z5 z6 hd (G H)
      obtain ⟨f, hf, rfl⟩ := Option.map_eq_some_iff.mp hcv
      exact s_virtual B hf hd H
    case invokespecial k =>
      obtain rfl : n = 3 := hn
      replace hcv : (if lkO3 (mC mth) k lkO = true then some (.invokespecial 9999) else (lkF3 (mC mth) k lkM).map .invokespecial) = some i := hcv
      split at hcv
      · rename_i hk
        cases hcv
        obtain ⟨a, r, rfl, z1, z2, z3, H⟩ := are_e H
        exact s_objinit B hk z1 z2 z3 hd (G H)
      obtain ⟨f, hf, rfl⟩ := Option.map_eq_some_iff.mp hcv
      have hfl := (wd_M hf).2
      replace H : (if f = 9999 then _ else callP (Wsem l D dA bs sb scr) f 2 3 d rc rs mth pc ls st h q) := H
      rw [if_neg (by have : f < 1000 := Nat.lt_trans hfl (by decide); omega)] at H
      exact s_special B hf hd H
    case ireturn =>
      obtain rfl : .ireturn = i := Option.some.inj hcv
      obtain rfl : n = 1 := hn
      obtain ⟨x, r, rfl, rfl, h1, h2⟩ := ai1_e H
      exact s_ireturn B h1 h2 hd
    case lreturn =>
      obtain rfl : .lreturn = i := Option.some.inj hcv
      obtain rfl : n = 1 := hn
      obtain ⟨x, r, rfl, rfl, h1, h2⟩ := alo_e H
      exact s_lreturn B h1 h2 hd
    case areturn =>
      obtain rfl : .areturn = i := Option.some.inj hcv
      obtain rfl : n = 1 := hn
      obtain ⟨x, r, rfl, rfl, h1, h2⟩ := are_e H
      exact s_areturn B h1 h2 hd
    case return_ =>
      obtain rfl : .return_ = i := Option.some.inj hcv
      obtain rfl : n = 1 := hn
      obtain ⟨rfl, h1, h2⟩ := H
      exact s_return B h1 h2 hd
    all_goals exact absurd hcv (by intro z; cases z)
theorem Wp_sound : pLe Wp (Wsem l D dA bs sb scr) := Wp_le sound
end SND
