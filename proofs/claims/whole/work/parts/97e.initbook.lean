/-! THE CLASS'S BOOK, made (by wip/whole/gen/gen97e.py) -/
/-- the book at a made of the reader's rows -/
def BkNew (h h' : PH) (a n pl : Int) : Prop := (nx h' = a + 7 ∧ ∀ b, b < a → tg h' b = tg h b ∧ ln h' b = ln h b ∧ ∀ i, gv h' b i = gv h b i) ∧ BkS h' a n pl ∧
  (∀ i, 0 ≤ i → i < n → gv h' (a + 1) i = gv h 12 i ∧ gv h' (a + 2) i = gv h 13 i ∧ gv h' (a + 3) i = gv h 14 i ∧ gv h' (a + 5) i = rl (gv h 13 i) ∧ isF (fun j => gv h 12 j) n (gv h 12 i) (gv h' (a + 6) i)) ∧ ∀ i, 0 ≤ i → i < pl → gv h' (a + 4) i = gv h 15 i
theorem BkS.svo {h : PH} {a n pl c i v : Int} (B : BkS h a n pl) (ca : c ≠ a) : BkS (sv h c i v) a n pl := by
  obtain ⟨b1, b2, b3, ⟨b41, b42, b43, b44, b45, b46⟩, b5, b6⟩ := B
  exact ⟨b1, b2, by rw [sv_ne (by omega)]; exact b3, ⟨by rw [sv_ne (by omega)]; exact b41, by rw [sv_ne (by omega)]; exact b42, by rw [sv_ne (by omega)]; exact b43, by rw [sv_ne (by omega)]; exact b44, by rw [sv_ne (by omega)]; exact b45, by rw [sv_ne (by omega)]; exact b46⟩, b5, b6⟩
theorem shape_low {h h' : PH} {a : Int} (S : Shape h) (a8 : 128 ≤ a) (n : 128 ≤ nx h') (g : ∀ b, b < a → tg h' b = tg h b ∧ ln h' b = ln h b ∧ ∀ i, gv h' b i = gv h b i) : Shape h' := by
  refine ⟨n, fun b b0 b1 => ?_, fun e he => ?_, fun s s0 s1 => ?_⟩
  · obtain ⟨x, y, _⟩ := g b (by omega)
    rw [x, y]; exact S.2.1 b b0 b1
  · have z := FIN_lt e he
    rw [(g e.1 (by omega)).2.2]; exact S.2.2.1 e he
  · rw [(g 39 (by omega)).2.2]; exact S.2.2.2 s s0 s1
theorem x_initBook {d : Nat} {h : PH} {q : PQ} (S : Shape h) {a n pl : Int} (an : nx h = a + 1) (a8 : 128 ≤ a) (ta : tg h a = 1) (n0 : 0 ≤ n) (n40 : n ≤ 40) (p0 : 0 ≤ pl) (p7 : pl ≤ 700) (K : ∀ h', BkNew h h' a n pl → q none h') :
    Wp (d + 2) 6 2900 M_X1_init 0 [some (.inr (.inr a)), some (.inl n), some (.inr (.inr 12)), some (.inr (.inr 13)), some (.inr (.inr 14)), some (.inr (.inr 15)), some (.inl pl), none] [] h q := by
  have J65 : ∀ (c kk : Nat) (k : Int) (rc rs : Nat) (hk : PH), k = kk → kk + c = n.toNat → nx hk = a + 7 → (∀ b, b < a → tg hk b = tg h b ∧ ln hk b = ln h b ∧ ∀ i, gv hk b i = gv h b i) → BkS hk a n pl → (∀ i, 0 ≤ i → i < n → gv hk (a + 1) i = gv h 12 i ∧ gv hk (a + 2) i = gv h 13 i ∧ gv hk (a + 3) i = gv h 14 i) → (∀ i, 0 ≤ i → i < pl → gv hk (a + 4) i = gv h 15 i) → (∀ i, 0 ≤ i → i < k → gv hk (a + 5) i = rl (gv h 13 i) ∧ isF (fun j => gv h 12 j) n (gv h 12 i) (gv hk (a + 6) i)) →
      Wp (d + 2) rc rs M_X1_init 65 [some (.inr (.inr a)), some (.inl n), some (.inr (.inr 12)), some (.inr (.inr 13)), some (.inr (.inr 14)), some (.inr (.inr 15)), some (.inl pl), some (.inl k)] [] hk q := by
    intro c
    induction c with
    | zero =>
      intro kk k rc rs hk ek hc nk lo B cp pg dn
      refine p_iload 67 rfl rfl rfl ?_
      refine p_iload 68 rfl rfl rfl ?_
      refine p_ic_ge_t 112 rfl rfl (by omega) ?_
      refine p_ret rfl rfl ?_
      exact K hk ⟨⟨nk, lo⟩, B, fun i i0 i1 => ⟨(cp i i0 i1).1, (cp i i0 i1).2.1, (cp i i0 i1).2.2, dn i i0 (by omega)⟩, pg⟩
    | succ c ih =>
      intro kk k rc rs hk ek hc nk lo B cp pg dn
      have Sk : Shape hk := shape_low S a8 (by omega) lo
      have k0 : 0 ≤ k := by omega
      have kn : k < n := by omega
      obtain ⟨c12, c13, c14⟩ := cp k k0 kn
      refine p_iload 67 rfl rfl rfl ?_
      refine p_iload 68 rfl rfl rfl ?_
      refine p_ic_ge_f 71 rfl rfl (by omega) ?_
      refine p_aload 72 rfl rfl rfl ?_
      refine p_getfr (j := 3) (z := a + 5) 75 rfl rfl rfl B.tag rfl B.f3 ?_
      refine p_iload 77 rfl rfl rfl ?_
      refine p_aload 78 rfl rfl rfl ?_
      refine p_getfr (j := 2) (z := a + 2) 81 rfl rfl rfl B.tag rfl B.f2 ?_
      refine p_iload 83 rfl rfl rfl ?_
      refine p_iald (w := n) (z := gv h 13 k) 84 rfl rfl B.t2 B.l2 k0 kn c13 ?_
      refine p_calls (le := [some (.inl (gv h 13 k))]) (as := [.inl (gv h 13 k)]) (rest := [.inl k, .inr (.inr (a + 5))]) 87 0 0 rc rs rfl rfl (Nat.le_of_ble_eq_true rfl) rfl (Nat.le_of_ble_eq_true rfl) rfl rfl (Nat.le_of_ble_eq_true rfl) rfl (Nat.le_of_ble_eq_true rfl) rfl (Nat.zero_le _) (Nat.zero_le _) rfl rfl ?_
      refine x_rl Sk _ ?_
      show Wp (d + 2) rc rs M_X1_init 87 [some (.inr (.inr a)), some (.inl n), some (.inr (.inr 12)), some (.inr (.inr 13)), some (.inr (.inr 14)), some (.inr (.inr 15)), some (.inl pl), some (.inl k)] [.inl (rl (gv h 13 k)), .inl k, .inr (.inr (a + 5))] hk _
      refine p_iast (w := n) 88 rfl rfl (by omega) B.t5 B.l5 k0 kn ?_
      refine p_nmh (fun u1 d1 => ?_)
      have B1 : BkS u1 a n pl := by rw [d1]; exact B.svo (by omega)
      have S1 : Shape u1 := by rw [d1]; exact Sk.svB (by omega) _ _
      have o1 : ∀ b i, b ≠ a + 5 → gv u1 b i = gv hk b i := fun b i hb => by rw [d1, sv_ne hb]
      refine p_aload 89 rfl rfl rfl ?_
      refine p_getfr (j := 4) (z := a + 6) 92 rfl rfl rfl B1.tag rfl B1.f4 ?_
      refine p_iload 94 rfl rfl rfl ?_
      refine p_aload 95 rfl rfl rfl ?_
      refine p_aload 96 rfl rfl rfl ?_
      refine p_getfr (j := 1) (z := a + 1) 99 rfl rfl rfl B1.tag rfl B1.f1 ?_
      refine p_iload 101 rfl rfl rfl ?_
      refine p_iald (w := n) (z := gv h 12 k) 102 rfl rfl B1.t1 B1.l1 k0 kn ((o1 _ _ (by omega)).trans c12) ?_
      refine p_callv (le := [some (.inr (.inr a)), some (.inl (gv h 12 k)), none]) (as := [.inr (.inr a), .inl (gv h 12 k)]) (rest := [.inl k, .inr (.inr (a + 6))]) 105 0 0 rc rs rfl rfl (Nat.le_of_ble_eq_true rfl) rfl (Nat.le_of_ble_eq_true rfl) rfl rfl (Nat.le_of_ble_eq_true rfl) rfl (Nat.le_of_ble_eq_true rfl) rfl (Nat.zero_le _) (Nat.zero_le _) rfl rfl B1.tag ?_
      refine x_idOf S1 a (gv h 12 k) (N := fun j => gv h 12 j) B1 n0 n40 (fun i i0 i1 => (o1 _ _ (by omega)).trans (cp i i0 i1).1) ?_
      show Wp (d + 2) rc rs M_X1_init 105 [some (.inr (.inr a)), some (.inl n), some (.inr (.inr 12)), some (.inr (.inr 13)), some (.inr (.inr 14)), some (.inr (.inr 15)), some (.inl pl), some (.inl k)] [.inl (frs (fun j => gv h 12 j) (gv h 12 k) n.toNat), .inl k, .inr (.inr (a + 6))] u1 _
      refine p_iast (w := n) 106 rfl rfl (by omega) B1.t6 B1.l6 k0 kn ?_
      refine p_nmh (fun u2 d2 => ?_)
      have o2 : ∀ b i, b ≠ a + 5 → b ≠ a + 6 → gv u2 b i = gv hk b i := fun b i hb hc => by rw [d2, sv_ne hc, d1, sv_ne hb]
      refine p_iinc (y := k + 1) (ls' := [some (.inr (.inr a)), some (.inl n), some (.inr (.inr 12)), some (.inr (.inr 13)), some (.inr (.inr 14)), some (.inr (.inr 15)), some (.inl pl), some (.inl (k + 1))]) 109 rfl rfl rfl (w32_id ⟨by omega, by omega⟩) rfl ?_
      refine p_goto 65 rfl rfl ?_
      refine ih (kk + 1) (k + 1) rc rs u2 (by omega) (by omega) (by rw [d2, d1]; exact nk) (fun b hb => ?_) (by rw [d2]; exact B1.svo (by omega)) (fun i i0 i1 => ?_) (fun i i0 i1 => (o2 _ _ (by omega) (by omega)).trans (pg i i0 i1)) (fun i i0 i1 => ?_)
      · obtain ⟨x, y, z⟩ := lo b hb
        exact ⟨by rw [d2, d1]; exact x, by rw [d2, d1]; exact y, fun i => (o2 _ _ (by omega) (by omega)).trans (z i)⟩
      · obtain ⟨x, y, z⟩ := cp i i0 i1
        exact ⟨(o2 _ _ (by omega) (by omega)).trans x, (o2 _ _ (by omega) (by omega)).trans y, (o2 _ _ (by omega) (by omega)).trans z⟩
      · by_cases z : i = k
        · subst z
          refine ⟨by rw [d2, sv_ne (by omega), d1, sv_eq], ?_⟩
          rw [d2, sv_eq]
          have y := isF_frs (fun j => gv h 12 j) (gv h 12 i) n.toNat
          rw [Int.toNat_of_nonneg n0] at y
          exact y
        · obtain ⟨x, y⟩ := dn i i0 (by omega)
          refine ⟨by rw [d2, sv_ne (by omega), d1, sv_nf z]; exact x, ?_⟩
          rw [d2, sv_nf z, d1, sv_ne (by omega)]; exact y
  refine p_aload 1 rfl rfl rfl ?_
  refine p_objinit 4 rfl rfl (by omega) (Nat.succ_pos _) (Nat.le_of_ble_eq_true rfl) ?_
  refine p_aload 5 rfl rfl rfl ?_
  refine p_iload 6 rfl rfl rfl ?_
  refine p_putfi (j := 0) 9 rfl rfl rfl (fun _ => ⟨rfl, rfl⟩) ta rfl ?_
  refine p_nmh (fun z0 e0 => ?_)
  have N0 : nx z0 = a + 1 := by rw [e0]; exact an
  have T0 : tg z0 a = 1 := by rw [e0]; exact ta
  have F0 : gv z0 a 0 = n := by rw [e0, sv_eq]
  have L0 : ∀ b, b < a → tg z0 b = tg h b ∧ ln z0 b = ln h b ∧ ∀ i, gv z0 b i = gv h b i := fun b hb => by rw [e0]; exact ⟨rfl, rfl, fun i => sv_ne (by omega)⟩
  have S0 : Shape z0 := by rw [e0]; exact S.svB a8 _ _
  refine p_aload 10 rfl rfl rfl ?_
  refine p_aload 11 rfl rfl rfl ?_
  refine p_iload 12 rfl rfl rfl ?_
  refine p_calls (le := [some (.inr (.inr 12)), some (.inl n), none]) (as := [.inr (.inr 12), .inl n]) (rest := [.inr (.inr a)]) 15 1 700 5 2200 rfl rfl (Nat.le_of_ble_eq_true rfl) rfl (Nat.le_of_ble_eq_true rfl) rfl rfl (Nat.le_of_ble_eq_true rfl) rfl (Nat.le_of_ble_eq_true rfl) rfl (Nat.le_of_ble_eq_true rfl) (Nat.le_of_ble_eq_true rfl) rfl rfl ?_
  refine x_copyOf S0 12 n (by decide) (by omega) (tg_12 S0) (ln_12 S0) n0 (by omega) (by decide) (fun y1 C1 => ?_)
  show Wp (d + 2) 5 2200 M_X1_init 15 [some (.inr (.inr a)), some (.inl n), some (.inr (.inr 12)), some (.inr (.inr 13)), some (.inr (.inr 14)), some (.inr (.inr 15)), some (.inl pl), none] [.inr (.inr (nx z0)), .inr (.inr a)] y1 _
  obtain ⟨G1, M1, t1, l1, v1⟩ := C1
  have Q1 := G1.2 a (by omega)
  refine p_putfr (j := 1) 18 rfl rfl rfl (fun _ => ⟨rfl, rfl⟩) (Q1.1.trans T0) rfl ?_
  refine p_nmh (fun z1 e1 => ?_)
  have c1 : nx z0 = a + 1 := by omega
  rw [c1] at t1 l1 v1 e1
  have N1 : nx z1 = a + 2 := by rw [e1]; show nx y1 = _; omega
  have T1 : tg z1 a = 1 := by rw [e1]; exact Q1.1.trans T0
  have F1 : gv z1 a 0 = n := by rw [e1, sv_nf (by decide), Q1.2.2]; exact F0
  have L1 : ∀ b, b < a → tg z1 b = tg h b ∧ ln z1 b = ln h b ∧ ∀ i, gv z1 b i = gv h b i := fun b hb => by
    obtain ⟨x, y, z⟩ := G1.2 b (by omega)
    obtain ⟨x2, y2, z2⟩ := L0 b hb
    rw [e1]
    exact ⟨x.trans x2, y.trans y2, fun i => by rw [sv_ne (by omega)]; exact (z i).trans (z2 i)⟩
  have S1 : Shape z1 := by rw [e1]; exact (S0.grw G1).svB a8 _ _
  have X1 : Slt z1 a 1 (a + 1) n (gv h 12) := by rw [e1]; exact ⟨sv_eq _ _ _ _, t1, l1, fun i i0 i1 => by rw [sv_ne (by omega), v1 i i0 i1, (L0 12 (by omega)).2.2]⟩
  refine p_aload 19 rfl rfl rfl ?_
  refine p_aload 20 rfl rfl rfl ?_
  refine p_iload 21 rfl rfl rfl ?_
  refine p_calls (le := [some (.inr (.inr 13)), some (.inl n), none]) (as := [.inr (.inr 13), .inl n]) (rest := [.inr (.inr a)]) 24 1 700 4 1500 rfl rfl (Nat.le_of_ble_eq_true rfl) rfl (Nat.le_of_ble_eq_true rfl) rfl rfl (Nat.le_of_ble_eq_true rfl) rfl (Nat.le_of_ble_eq_true rfl) rfl (Nat.le_of_ble_eq_true rfl) (Nat.le_of_ble_eq_true rfl) rfl rfl ?_
  refine x_copyOf S1 13 n (by decide) (by omega) (tg_13 S1) (ln_13 S1) n0 (by omega) (by decide) (fun y2 C2 => ?_)
  show Wp (d + 2) 4 1500 M_X1_init 24 [some (.inr (.inr a)), some (.inl n), some (.inr (.inr 12)), some (.inr (.inr 13)), some (.inr (.inr 14)), some (.inr (.inr 15)), some (.inl pl), none] [.inr (.inr (nx z1)), .inr (.inr a)] y2 _
  obtain ⟨G2, M2, t2, l2, v2⟩ := C2
  have Q2 := G2.2 a (by omega)
  refine p_putfr (j := 2) 27 rfl rfl rfl (fun _ => ⟨rfl, rfl⟩) (Q2.1.trans T1) rfl ?_
  refine p_nmh (fun z2 e2 => ?_)
  have c2 : nx z1 = a + 2 := by omega
  rw [c2] at t2 l2 v2 e2
  have N2 : nx z2 = a + 3 := by rw [e2]; show nx y2 = _; omega
  have T2 : tg z2 a = 1 := by rw [e2]; exact Q2.1.trans T1
  have F2 : gv z2 a 0 = n := by rw [e2, sv_nf (by decide), Q2.2.2]; exact F1
  have L2 : ∀ b, b < a → tg z2 b = tg h b ∧ ln z2 b = ln h b ∧ ∀ i, gv z2 b i = gv h b i := fun b hb => by
    obtain ⟨x, y, z⟩ := G2.2 b (by omega)
    obtain ⟨x2, y2, z2⟩ := L1 b hb
    rw [e2]
    exact ⟨x.trans x2, y.trans y2, fun i => by rw [sv_ne (by omega)]; exact (z i).trans (z2 i)⟩
  have S2 : Shape z2 := by rw [e2]; exact (S1.grw G2).svB a8 _ _
  have X1 : Slt z2 a 1 (a + 1) n (gv h 12) := by rw [e2]; exact X1.next G2 (by omega) (by omega) (by omega) (by decide)
  have X2 : Slt z2 a 2 (a + 2) n (gv h 13) := by rw [e2]; exact ⟨sv_eq _ _ _ _, t2, l2, fun i i0 i1 => by rw [sv_ne (by omega), v2 i i0 i1, (L1 13 (by omega)).2.2]⟩
  refine p_aload 28 rfl rfl rfl ?_
  refine p_aload 30 rfl rfl rfl ?_
  refine p_iload 31 rfl rfl rfl ?_
  refine p_calls (le := [some (.inr (.inr 14)), some (.inl n), none]) (as := [.inr (.inr 14), .inl n]) (rest := [.inr (.inr a)]) 34 1 700 3 800 rfl rfl (Nat.le_of_ble_eq_true rfl) rfl (Nat.le_of_ble_eq_true rfl) rfl rfl (Nat.le_of_ble_eq_true rfl) rfl (Nat.le_of_ble_eq_true rfl) rfl (Nat.le_of_ble_eq_true rfl) (Nat.le_of_ble_eq_true rfl) rfl rfl ?_
  refine x_copyOf S2 14 n (by decide) (by omega) (tg_14 S2) (ln_14 S2) n0 (by omega) (by decide) (fun y3 C3 => ?_)
  show Wp (d + 2) 3 800 M_X1_init 34 [some (.inr (.inr a)), some (.inl n), some (.inr (.inr 12)), some (.inr (.inr 13)), some (.inr (.inr 14)), some (.inr (.inr 15)), some (.inl pl), none] [.inr (.inr (nx z2)), .inr (.inr a)] y3 _
  obtain ⟨G3, M3, t3, l3, v3⟩ := C3
  have Q3 := G3.2 a (by omega)
  refine p_putfr (j := 5) 37 rfl rfl rfl (fun _ => ⟨rfl, rfl⟩) (Q3.1.trans T2) rfl ?_
  refine p_nmh (fun z3 e3 => ?_)
  have c3 : nx z2 = a + 3 := by omega
  rw [c3] at t3 l3 v3 e3
  have N3 : nx z3 = a + 4 := by rw [e3]; show nx y3 = _; omega
  have T3 : tg z3 a = 1 := by rw [e3]; exact Q3.1.trans T2
  have F3 : gv z3 a 0 = n := by rw [e3, sv_nf (by decide), Q3.2.2]; exact F2
  have L3 : ∀ b, b < a → tg z3 b = tg h b ∧ ln z3 b = ln h b ∧ ∀ i, gv z3 b i = gv h b i := fun b hb => by
    obtain ⟨x, y, z⟩ := G3.2 b (by omega)
    obtain ⟨x2, y2, z2⟩ := L2 b hb
    rw [e3]
    exact ⟨x.trans x2, y.trans y2, fun i => by rw [sv_ne (by omega)]; exact (z i).trans (z2 i)⟩
  have S3 : Shape z3 := by rw [e3]; exact (S2.grw G3).svB a8 _ _
  have X1 : Slt z3 a 1 (a + 1) n (gv h 12) := by rw [e3]; exact X1.next G3 (by omega) (by omega) (by omega) (by decide)
  have X2 : Slt z3 a 2 (a + 2) n (gv h 13) := by rw [e3]; exact X2.next G3 (by omega) (by omega) (by omega) (by decide)
  have X3 : Slt z3 a 5 (a + 3) n (gv h 14) := by rw [e3]; exact ⟨sv_eq _ _ _ _, t3, l3, fun i i0 i1 => by rw [sv_ne (by omega), v3 i i0 i1, (L2 14 (by omega)).2.2]⟩
  refine p_aload 38 rfl rfl rfl ?_
  refine p_aload 40 rfl rfl rfl ?_
  refine p_iload 42 rfl rfl rfl ?_
  refine p_calls (le := [some (.inr (.inr 15)), some (.inl pl), none]) (as := [.inr (.inr 15), .inl pl]) (rest := [.inr (.inr a)]) 45 1 700 2 100 rfl rfl (Nat.le_of_ble_eq_true rfl) rfl (Nat.le_of_ble_eq_true rfl) rfl rfl (Nat.le_of_ble_eq_true rfl) rfl (Nat.le_of_ble_eq_true rfl) rfl (Nat.le_of_ble_eq_true rfl) (Nat.le_of_ble_eq_true rfl) rfl rfl ?_
  refine x_copyOf S3 15 pl (by decide) (by omega) (tg_15 S3) (ln_15 S3) p0 (by omega) (by decide) (fun y4 C4 => ?_)
  show Wp (d + 2) 2 100 M_X1_init 45 [some (.inr (.inr a)), some (.inl n), some (.inr (.inr 12)), some (.inr (.inr 13)), some (.inr (.inr 14)), some (.inr (.inr 15)), some (.inl pl), none] [.inr (.inr (nx z3)), .inr (.inr a)] y4 _
  obtain ⟨G4, M4, t4, l4, v4⟩ := C4
  have Q4 := G4.2 a (by omega)
  refine p_putfr (j := 6) 48 rfl rfl rfl (fun _ => ⟨rfl, rfl⟩) (Q4.1.trans T3) rfl ?_
  refine p_nmh (fun z4 e4 => ?_)
  have c4 : nx z3 = a + 4 := by omega
  rw [c4] at t4 l4 v4 e4
  have N4 : nx z4 = a + 5 := by rw [e4]; show nx y4 = _; omega
  have T4 : tg z4 a = 1 := by rw [e4]; exact Q4.1.trans T3
  have F4 : gv z4 a 0 = n := by rw [e4, sv_nf (by decide), Q4.2.2]; exact F3
  have L4 : ∀ b, b < a → tg z4 b = tg h b ∧ ln z4 b = ln h b ∧ ∀ i, gv z4 b i = gv h b i := fun b hb => by
    obtain ⟨x, y, z⟩ := G4.2 b (by omega)
    obtain ⟨x2, y2, z2⟩ := L3 b hb
    rw [e4]
    exact ⟨x.trans x2, y.trans y2, fun i => by rw [sv_ne (by omega)]; exact (z i).trans (z2 i)⟩
  have S4 : Shape z4 := by rw [e4]; exact (S3.grw G4).svB a8 _ _
  have X1 : Slt z4 a 1 (a + 1) n (gv h 12) := by rw [e4]; exact X1.next G4 (by omega) (by omega) (by omega) (by decide)
  have X2 : Slt z4 a 2 (a + 2) n (gv h 13) := by rw [e4]; exact X2.next G4 (by omega) (by omega) (by omega) (by decide)
  have X3 : Slt z4 a 5 (a + 3) n (gv h 14) := by rw [e4]; exact X3.next G4 (by omega) (by omega) (by omega) (by decide)
  have X4 : Slt z4 a 6 (a + 4) pl (gv h 15) := by rw [e4]; exact ⟨sv_eq _ _ _ _, t4, l4, fun i i0 i1 => by rw [sv_ne (by omega), v4 i i0 i1, (L3 15 (by omega)).2.2]⟩
  refine p_aload 49 rfl rfl rfl ?_
  refine p_iload 50 rfl rfl rfl ?_
  refine p_newa (t := .int) (tt := 100) 52 1 (100 - n.toNat) rfl rfl rfl (by decide) n0 (Nat.le_of_ble_eq_true rfl) (by omega) rfl rfl ?_
  refine p_nmh (fun y5 d5 => ?_)
  have G5 : Grw z4 y5 := by rw [d5]; exact al_grw _ _ _
  have M5 : nx y5 = nx z4 + 1 := by rw [d5]; rfl
  have t5 : tg y5 (nx z4) = 100 := by rw [d5]; exact (al_new _ _ _).1
  have l5 : ln y5 (nx z4) = n := by rw [d5]; exact (al_new _ _ _).2.1
  have v5 : ∀ i, gv y5 (nx z4) i = 0 := fun i => by rw [d5]; exact (al_new _ _ _).2.2 i
  have Q5 := G5.2 a (by omega)
  refine p_putfr (j := 3) 55 rfl rfl rfl (fun _ => ⟨rfl, rfl⟩) (Q5.1.trans T4) rfl ?_
  refine p_nmh (fun z5 e5 => ?_)
  have c5 : nx z4 = a + 5 := by omega
  rw [c5] at t5 l5 v5 e5
  have N5 : nx z5 = a + 6 := by rw [e5]; show nx y5 = _; omega
  have T5 : tg z5 a = 1 := by rw [e5]; exact Q5.1.trans T4
  have F5 : gv z5 a 0 = n := by rw [e5, sv_nf (by decide), Q5.2.2]; exact F4
  have L5 : ∀ b, b < a → tg z5 b = tg h b ∧ ln z5 b = ln h b ∧ ∀ i, gv z5 b i = gv h b i := fun b hb => by
    obtain ⟨x, y, z⟩ := G5.2 b (by omega)
    obtain ⟨x2, y2, z2⟩ := L4 b hb
    rw [e5]
    exact ⟨x.trans x2, y.trans y2, fun i => by rw [sv_ne (by omega)]; exact (z i).trans (z2 i)⟩
  have S5 : Shape z5 := by rw [e5]; exact (S4.grw G5).svB a8 _ _
  have X1 : Slt z5 a 1 (a + 1) n (gv h 12) := by rw [e5]; exact X1.next G5 (by omega) (by omega) (by omega) (by decide)
  have X2 : Slt z5 a 2 (a + 2) n (gv h 13) := by rw [e5]; exact X2.next G5 (by omega) (by omega) (by omega) (by decide)
  have X3 : Slt z5 a 5 (a + 3) n (gv h 14) := by rw [e5]; exact X3.next G5 (by omega) (by omega) (by omega) (by decide)
  have X4 : Slt z5 a 6 (a + 4) pl (gv h 15) := by rw [e5]; exact X4.next G5 (by omega) (by omega) (by omega) (by decide)
  have X5 : Slt z5 a 3 (a + 5) n (fun _ => 0) := by rw [e5]; exact ⟨sv_eq _ _ _ _, t5, l5, fun i i0 i1 => by rw [sv_ne (by omega)]; exact v5 i⟩
  refine p_aload 56 rfl rfl rfl ?_
  refine p_iload 57 rfl rfl rfl ?_
  refine p_newa (t := .int) (tt := 100) 59 0 (100 - n.toNat - n.toNat) rfl rfl rfl (by decide) n0 (Nat.le_of_ble_eq_true rfl) (by omega) rfl rfl ?_
  refine p_nmh (fun y6 d6 => ?_)
  have G6 : Grw z5 y6 := by rw [d6]; exact al_grw _ _ _
  have M6 : nx y6 = nx z5 + 1 := by rw [d6]; rfl
  have t6 : tg y6 (nx z5) = 100 := by rw [d6]; exact (al_new _ _ _).1
  have l6 : ln y6 (nx z5) = n := by rw [d6]; exact (al_new _ _ _).2.1
  have v6 : ∀ i, gv y6 (nx z5) i = 0 := fun i => by rw [d6]; exact (al_new _ _ _).2.2 i
  have Q6 := G6.2 a (by omega)
  refine p_putfr (j := 4) 62 rfl rfl rfl (fun _ => ⟨rfl, rfl⟩) (Q6.1.trans T5) rfl ?_
  refine p_nmh (fun z6 e6 => ?_)
  have c6 : nx z5 = a + 6 := by omega
  rw [c6] at t6 l6 v6 e6
  have N6 : nx z6 = a + 7 := by rw [e6]; show nx y6 = _; omega
  have T6 : tg z6 a = 1 := by rw [e6]; exact Q6.1.trans T5
  have F6 : gv z6 a 0 = n := by rw [e6, sv_nf (by decide), Q6.2.2]; exact F5
  have L6 : ∀ b, b < a → tg z6 b = tg h b ∧ ln z6 b = ln h b ∧ ∀ i, gv z6 b i = gv h b i := fun b hb => by
    obtain ⟨x, y, z⟩ := G6.2 b (by omega)
    obtain ⟨x2, y2, z2⟩ := L5 b hb
    rw [e6]
    exact ⟨x.trans x2, y.trans y2, fun i => by rw [sv_ne (by omega)]; exact (z i).trans (z2 i)⟩
  have S6 : Shape z6 := by rw [e6]; exact (S5.grw G6).svB a8 _ _
  have X1 : Slt z6 a 1 (a + 1) n (gv h 12) := by rw [e6]; exact X1.next G6 (by omega) (by omega) (by omega) (by decide)
  have X2 : Slt z6 a 2 (a + 2) n (gv h 13) := by rw [e6]; exact X2.next G6 (by omega) (by omega) (by omega) (by decide)
  have X3 : Slt z6 a 5 (a + 3) n (gv h 14) := by rw [e6]; exact X3.next G6 (by omega) (by omega) (by omega) (by decide)
  have X4 : Slt z6 a 6 (a + 4) pl (gv h 15) := by rw [e6]; exact X4.next G6 (by omega) (by omega) (by omega) (by decide)
  have X5 : Slt z6 a 3 (a + 5) n (fun _ => 0) := by rw [e6]; exact X5.next G6 (by omega) (by omega) (by omega) (by decide)
  have X6 : Slt z6 a 4 (a + 6) n (fun _ => 0) := by rw [e6]; exact ⟨sv_eq _ _ _ _, t6, l6, fun i i0 i1 => by rw [sv_ne (by omega)]; exact v6 i⟩
  refine p_const 63 rfl rfl ?_
  refine p_istore (ls' := [some (.inr (.inr a)), some (.inl n), some (.inr (.inr 12)), some (.inr (.inr 13)), some (.inr (.inr 14)), some (.inr (.inr 15)), some (.inl pl), some (.inl 0)]) 65 rfl rfl (Nat.le_of_ble_eq_true rfl) rfl ?_
  refine J65 n.toNat 0 0 _ _ z6 rfl (Nat.zero_add _) N6 L6 ⟨⟨a8, by omega⟩, T6, F6, ⟨X1.1, X2.1, X5.1, X6.1, X3.1, X4.1⟩, ⟨X1.2.1, X2.2.1, X3.2.1, X4.2.1, X5.2.1, X6.2.1⟩, X1.2.2.1, X2.2.2.1, X3.2.2.1, X4.2.2.1, X5.2.2.1, X6.2.2.1⟩ (fun i i0 i1 => ⟨X1.2.2.2 i i0 i1, X2.2.2.2 i i0 i1, X3.2.2.2 i i0 i1⟩) (fun i i0 i1 => X4.2.2.2 i i0 i1) (fun i i0 i1 => by omega)

