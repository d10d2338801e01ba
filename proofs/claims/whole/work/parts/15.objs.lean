/-! SOUNDNESS, 3: fields, things made, library, answers -/
def qc (c : Nat) : vw_C := vwCl.getD c (RX0, TX0, 0)
def ktyp : FieldType → Nat
  | .int => 0
  | .long => 1
  | .boolean => 3
  | .byte => 4
  | .char => 5
  | .object _ => 2
  | .array _ => 2
  | _ => 9
theorem lt13 {P : Nat → Prop} (h0 : P 0) (h1 : P 1) (h2 : P 2) (h3 : P 3) (h4 : P 4) (h5 : P 5) (h6 : P 6) (h7 : P 7) (h8 : P 8) (h9 : P 9) (h10 : P 10) (h11 : P 11) (h12 : P 12) : ∀ c, c < 13 → P c := by
  intro c hc
  rcases (show c = 0 ∨ c = 1 ∨ c = 2 ∨ c = 3 ∨ c = 4 ∨ c = 5 ∨ c = 6 ∨ c = 7 ∨ c = 8 ∨ c = 9 ∨ c = 10 ∨ c = 11 ∨ c = 12 by omega) with rfl | rfl | rfl | rfl | rfl | rfl | rfl | rfl | rfl | rfl | rfl | rfl | rfl <;> assumption
theorem qc_at : ∀ c, c < 13 → vwCl[c]? = some (qc c) := lt13 rfl rfl rfl rfl rfl rfl rfl rfl rfl rfl rfl rfl rfl
theorem qc_nm : ∀ c, c < 13 → (qc c).1 = cnm c := lt13 rfl rfl rfl rfl rfl rfl rfl rfl rfl rfl rfl rfl rfl
theorem qc_in : ∀ c, c < 13 → ∀ w ∈ u_ws (qc c).1 (qc c).2.1 (qc c).2.2, w ∈ lw_tbl := lt13 y_0 y_1 y_2 y_3 y_4 y_5 y_6 y_7 y_8 y_9 y_10 y_11 y_12
theorem qc_ins : ∀ c, c < 13 → Jvm.Cond.instantiable (cnm c) (fN c) ∈ lw_tbl := lt13 z_0 z_1 z_2 z_3 z_4 z_5 z_6 z_7 z_8 z_9 z_10 z_11 z_12
theorem qc_ini : ∀ c, c < 13 → Jvm.Cond.initialized (cnm c) ∈ lw_tbl := lt13 x_0 x_1 x_2 x_3 x_4 x_5 x_6 x_7 x_8 x_9 x_10 x_11 x_12
theorem qc_fin : ∀ c, c < 13 → ∀ k, k < fN c → ff (100 * c + k) = ((qc c).2.1 k).2.2.2 ∧ ((qc c).2.1 k).1 = cnm c ∧ (parseFieldDescriptor ((qc c).2.1 k).2.2.1).map ktyp = some (fk (100 * c + k)) ∧ fk (100 * c + k) < 4 := by decide +kernel
theorem qc_nd : ∀ c, c < 13 → ∀ a, a < fN c → ∀ b, b < fN c → a ≠ b → ((qc c).2.1 a).2.1 ≠ ((qc c).2.1 b).2.1 := lt13 nmX0 nmX1 nmX2 nmX3 nmX4 nmX5 nmX6 nmX7 nmX8 nmX9 nmX10 nmX11 nmX12
theorem u_good {C : String} {T : u_T} {N : Nat} : ∀ w ∈ u_ws C T N, goodWord w = true := by
  intro w hw
  obtain ⟨k, -, rfl⟩ := List.mem_map.mp hw
  unfold u_lay
  split <;> rfl
def tyC (c k : Nat) : FieldType := (parseFieldDescriptor ((qc c).2.1 k).2.2.1).getD .int
theorem tyC_ok {c k : Nat} (hc : c < 13) (hk : k < fN c) : parseFieldDescriptor ((qc c).2.1 k).2.2.1 = some (tyC c k) ∧ ktyp (tyC c k) = fk (100 * c + k) := by
  have h := (qc_fin c hc k hk).2.2.1
  unfold tyC
  cases hp : parseFieldDescriptor ((qc c).2.1 k).2.2.1 with
  | none => rw [hp] at h; cases h
  | some t => rw [hp] at h; exact ⟨rfl, Option.some.inj h⟩
theorem kt_val {ty : FieldType} {k : Nat} {x : Int} {bs sb : Nat} (ht : ktyp ty = k) (hk : k < 4) (h3 : k = 3 → x = 0 ∨ x = 1) : narrow ty (cv bs sb (mkv k x)) = cv bs sb (mkv k x) ∧ fits ty (cv bs sb (mkv k x)) = true := by
  subst ht
  cases ty <;> simp only [ktyp] at hk h3 ⊢ <;> first | (exact absurd hk (by decide)) | exact ⟨rfl, rfl⟩ | skip
  · rcases h3 trivial with rfl | rfl <;> exact ⟨rfl, rfl⟩
  · show narrow _ (if x = 0 then Value.null else Value.ref (adr bs sb x)) = (if x = 0 then Value.null else Value.ref (adr bs sb x)) ∧ fits _ (if x = 0 then Value.null else Value.ref (adr bs sb x)) = true
    split <;> exact ⟨rfl, rfl⟩
  · show narrow _ (if x = 0 then Value.null else Value.ref (adr bs sb x)) = (if x = 0 then Value.null else Value.ref (adr bs sb x)) ∧ fits _ (if x = 0 then Value.null else Value.ref (adr bs sb x)) = true
    split <;> exact ⟨rfl, rfl⟩
theorem kt_def {ty : FieldType} {k : Nat} {bs sb : Nat} (ht : ktyp ty = k) (hk : k < 9) : defaultValue ty = cv bs sb (mkv k 0) := by
  subst ht
  cases ty <;> simp only [ktyp] at hk ⊢ <;> first | (exact absurd hk (by decide)) | rfl
theorem f_split (f : Nat) : 100 * (f / 100) + f % 100 = f := Nat.div_add_mod f 100
section SND
variable {l : Launch} {D : va_G} {dA : Nat → ClassId} {bs sb : Nat} {scr : Cell} {p : Program} {e : Env} {R : Room} {s : State} {m : MethodId} {args : Array Value} {below : List Frame} {meth : Method} {c : Code} {mc ms d rc rs mth pc : Nat} {ls : List (Option PV)} {r : List PV} {h : PH} {q : PQ}
/-- what is known of a field -/
theorem fld {f : Nat} (hK : KN D dA scr s) (hc : f / 100 < 13) (hk : f % 100 < fN (f / 100)) : ∃ (cf : Nat) (kf : Class) (fi : Nat) (fd : Field), s.fieldFound? (fT f).1 (fT f).2.1 (fT f).2.2.1 = some (cf, kf, fi, fd) ∧ fd.slot = D.2 (f / 100) (f % 100) ∧ fd.isStatic = false ∧
    (ff f = true → ∀ a : Array Value, (Jvm.Cond.laysFinal (cnm (f / 100)) (fT f).1 (fT f).2.1 (fT f).2.2.1).before a s = true) ∧
    ∀ v : Value, narrow (tyC (f / 100) (f % 100)) v = v → fits (tyC (f / 100) (f % 100)) v = true → narrow fd.type v = v ∧ s.fitsSlot (D.1 (f / 100)) .none fd.slot v = true ∧ (ff f = false → k2_Sd s fd (D.1 (f / 100)) v) := by
  have hq := qc_at _ hc
  obtain ⟨hS, hfc, kC, hkC, hkind⟩ := hK.2.2.1.1 (f / 100) _ hq
  obtain ⟨cf, kf, fi, fd, hi, hsl⟩ := hS (f % 100) hk
  have hts : ∀ w ∈ u_ws (qc (f / 100)).1 (qc (f / 100)).2.1 (qc (f / 100)).2.2, w.before #[] s = true := fun w hw => hK.1 w (qc_in _ hc w hw) (u_good w hw) #[]
  have hl := u_lays hts (fun w hw => hw) hk
  have hp := tyC_ok hc hk
  obtain ⟨g1, g2, g3, g4⟩ := qc_fin _ hc _ hk
  rw [f_split] at g1
  have hlay := hts _ (u_in_lay hk)
  unfold u_lay at hlay
  refine ⟨cf, kf, fi, fd, hi, hsl, (u_facts hfc hkC hl hi).1, fun hf a => ?_, fun v hn hv => ?_⟩
  · have hm := qc_in _ hc _ (u_in_lay hk)
    unfold u_lay at hm
    rw [if_pos (by rw [← g1]; exact hf), qc_nm _ hc] at hm
    exact hK.1 _ hm rfl a
  · obtain ⟨w1, w2⟩ := u_fits hfc hkC hkind hl hi hp.1 hn hv
    refine ⟨w1, w2, fun hf => ?_⟩
    rw [if_neg (by rw [← g1, hf]; decide)] at hlay
    exact u_store hfc hkC hkind hlay hi hp.1 hn hv
theorem s_getfield (B : Bx D dA bs scr p R s m meth c mc ms d mth) {a : Int} {i f : Nat} (hf : lkF3 (mC mth) i lkF = some f) (ht : tg h a = ((f / 100 : Nat) : Int)) (hd : decode (minf mth).2.1 pc = .ok (.getfield i, 3))
    (K : Wc l D dA bs sb scr p e R s m args below meth c mc ms rc rs mth (pc + 3) ls (mkv (fk f) (gv h a ((f % 100 : Nat) : Int)) :: r) h q) : Wc l D dA bs sb scr p e R s m args below meth c mc ms rc rs mth pc ls (.inr (.inr a) :: r) h q := by
  intro H locs cells slots L hR hz hlo hc hs hL hst
  obtain ⟨ha, hst⟩ := ok_1 hst
  obtain ⟨⟨nest, hw⟩, hc13, hfN⟩ := wd_F hf
  obtain ⟨a2, a3, ⟨cell, q1, q2, q3, q4⟩, q5⟩ := hR.obj ht hc13
  obtain ⟨cf, kf, fi, fd, hi, hsl, hsf, -, -⟩ := fld B.2.2.2.2.2.2.2.1 hc13 hfN
  have q4' := q4 _ hfN
  have q5' := q5 _ hfN
  dsimp only at q4'
  rw [f_split] at q4' q5'
  have g4 := (qc_fin _ hc13 _ hfN).2.2.2
  rw [f_split] at g4
  rw [List.map_cons, cv_r (show a ≠ 0 by omega)]
  have K' := K H locs cells slots L hR hz hlo hc hs hL (ok_c (okv_mk (by omega) q5') hst)
  have hun : cell.vm ≠ .unknown := by rw [q3]; exact fun z => by cases z
  cases nest with
  | true =>
    rw [if_pos rfl] at hw
    exact va_Wgetf B.1 B.2.1 B.2.2.2.1 (va_Nw.use rfl (B.2.2.2.2.2.2.2.1.2.1 _ hw rfl)) hi hsf q1 hun (v := cv bs sb (mkv (fk f) (gv h a ((f % 100 : Nat) : Int)))) (by rw [hsl]; exact q4') rfl rfl hd K'
  | false =>
    rw [if_neg (by decide)] at hw
    exact W.getf B.1 B.2.1 B.2.2.2.1 (B.2.2.2.2.2.2.2.1.1 _ hw rfl args) hi hsf q1 hun (v := cv bs sb (mkv (fk f) (gv h a ((f % 100 : Nat) : Int)))) (by rw [hsl]; exact q4') rfl rfl hd K'
theorem mk_okx {k : Nat} {x n : Int} (hk : k < 4) (h3 : k = 3 → x = 0 ∨ x = 1) (H : okv n (mkv k x)) : okx n k x := by
  match k, hk, h3, H with
  | 0, _, _, H => exact H
  | 1, _, _, H => exact H
  | 2, _, _, H => exact H
  | 3, _, h3, _ => rcases h3 rfl with rfl | rfl <;> exact ⟨by decide, by decide⟩
theorem s_putfield (B : Bx D dA bs scr p R s m meth c mc ms d mth) {a x : Int} {i f : Nat} (hf : lkF3 (mC mth) i lkF = some f) (ht : tg h a = ((f / 100 : Nat) : Int)) (hfin : ff f = true → mK mth = 2 ∧ mC mth = f / 100) (h3 : fk f = 3 → x = 0 ∨ x = 1) (hd : decode (minf mth).2.1 pc = .ok (.putfield i, 3))
    (K : Wc l D dA bs sb scr p e R s m args below meth c mc ms rc rs mth (pc + 3) ls r (sv h a ((f % 100 : Nat) : Int) x) q) : Wc l D dA bs sb scr p e R s m args below meth c mc ms rc rs mth pc ls (mkv (fk f) x :: .inr (.inr a) :: r) h q := by
  intro H locs cells slots L hR hz hlo hc hs hL hst
  obtain ⟨hx, hst⟩ := ok_1 hst
  obtain ⟨ha, hst⟩ := ok_1 hst
  obtain ⟨⟨nest, hw⟩, hc13, hfN⟩ := wd_F hf
  obtain ⟨a2, a3, ⟨cell, q1, q2, q3, q4⟩, q5⟩ := hR.obj ht hc13
  obtain ⟨cf, kf, fi, fd, hi, hsl, hsf, hlf, hst2⟩ := fld B.2.2.2.2.2.2.2.1 hc13 hfN
  have g4 := (qc_fin _ hc13 _ hfN).2.2.2
  have hty := (tyC_ok hc13 hfN).2
  rw [f_split] at g4 hty
  obtain ⟨v1, v2⟩ := kt_val (bs := bs) (sb := sb) hty g4 h3
  obtain ⟨w1, w2, w3⟩ := hst2 _ v1 v2
  have hap : ∀ x y, x < fN (f / 100) → y < fN (f / 100) → x ≠ y → (D.2 (f / 100)) x ≠ (D.2 (f / 100)) y :=
    va_apart (own := "") (Ts := u_ws (qc (f / 100)).1 (qc (f / 100)).2.1 (qc (f / 100)).2.2) (args := #[]) (fun w hw => B.2.2.2.2.2.2.2.1.1 w (qc_in _ hc13 w hw) (u_good w hw) #[]) (fun w hw => hw) (tyC (f / 100)) (fun k hk => (tyC_ok hc13 hk).1) (qc_nd _ hc13) B.2.2.2.2.2.2.2.1.2.2.1 (qc_at _ hc13)
  have hlt : fd.slot < cell.slots.size := by rw [hsl]; exact k2_hasslot (q4 _ hfN)
  rw [List.map_cons, List.map_cons, cv_r (show a ≠ 0 by omega)]
  have K' : ∀ H' : Heap, H'[adr bs sb a]? = some (cell.setSlot fd.slot (cv bs sb (mkv (fk f) x))) → H'.size = H.size → (∀ q, q ≠ adr bs sb a → H'[q]? = H[q]?) →
      W p l e R s m args below meth c H' (locs ++ [⟨adr bs sb a, fd.slot⟩]) cells slots (MQ below (QC D dA bs sb scr q) args s mc ms (fun x => bs ≤ x)) (F0 m (pc + 3) L (r.map (cv bs sb))) := by
    intro H' e1 e2 e3
    rw [hsl] at e1
    refine K H' _ cells slots L (hR.stf ht hc13 (k := f % 100) (by rw [f_split]; exact mk_okx g4 h3 hx) ⟨_, e1, q2, q3, ?_⟩ e2 e3) (by rw [e2]; exact hz) (fun y hy => ?_) hc hs hL hst
    · have := t_set q4 hap hfN (cv bs sb (mkv (fk f) x))
      rw [f_split]
      exact this
    · rcases List.mem_append.mp hy with z | z
      · exact hlo y z
      · rw [List.mem_singleton.mp z, adr_2 a2]; exact Nat.le_add_right _ _
  cases hff : ff f with
  | true =>
    obtain ⟨hk2, hcl⟩ := hfin hff
    have hlw := hlf hff args
    have hcf : m.cls = cf := by
      obtain ⟨_, _, c', _, _, _, -, -, hf', -, -, -, hown2, -⟩ := Cond.laysFinal_spec hlw
      have e1 : c' = cf := by have := hi.symm.trans hf'; simp at this; exact this.1.symm
      have hown := B.2.2.2.1
      have hdecl := (qc_fin _ hc13 _ hfN).2.1
      have e2 : (fT f).1 = cnm (mC mth) := by rw [hcl]; exact hdecl
      rw [e2] at hown2
      rw [← e1]; exact Option.some.inj (hown.symm.trans hown2)
    have hin := B.2.2.2.2.2.1 hk2
    cases nest with
    | true =>
      rw [if_pos rfl] at hw
      refine va_Wputf B.1 B.2.1 B.2.2.2.1 (va_Nw.use rfl (B.2.2.2.2.2.2.2.1.2.1 _ hw rfl)) hi hsf (Or.inr ⟨hcf, hin⟩) q1 (by rw [q3]; exact fun z => by cases z) hlt w1 (by rw [q2, q3]; exact w2) rfl rfl hd ?_
      have hal : adr bs sb a < H.size := (Array.getElem?_eq_some_iff.mp q1).1
      exact K' _ (by simp [Array.getElem?_setIfInBounds, hal]) (by simp) (fun z hz => by simp [Array.getElem?_setIfInBounds, Ne.symm hz])
    | false =>
      rw [if_neg (by decide)] at hw
      exact W.putFinK B.1 B.2.1 B.2.2.2.1 (B.2.2.2.2.2.2.2.1.1 _ hw rfl args) hi hsf hcf hin (by rw [q2]; exact ⟨w1, w2⟩) q1 q3 hlt rfl rfl hd K'
  | false =>
    have h6 := w3 hff
    cases nest with
    | true =>
      rw [if_pos rfl] at hw
      exact va_WputK B.1 B.2.1 B.2.2.2.1 (va_Nw.use rfl (B.2.2.2.2.2.2.2.1.2.1 _ hw rfl)) hi hsf (by rw [q2]; exact h6) q1 q3 hlt rfl rfl hd K'
    | false =>
      rw [if_neg (by decide)] at hw
      exact W.putK B.1 B.2.1 ⟨B.2.2.2.1, B.2.2.2.2.2.2.2.1.1 _ hw rfl args, ⟨_, _, _, hi⟩, hsf⟩ (by rw [q2]; exact h6) q1 q3 hlt rfl rfl hd K'
theorem nx_al (h : PH) (t n : Int) : nx (al h t n) = nx h + 1 := rfl
theorem gv_al (h : PH) (t n b j : Int) : gv (al h t n) b j = if b = nx h then 0 else gv h b j := rfl
theorem tg_al (h : PH) (t n b : Int) : tg (al h t n) b = if b = nx h then t else tg h b := rfl
theorem ln_al (h : PH) (t n b : Int) : ln (al h t n) b = if b = nx h then n else ln h b := rfl
theorem HR.alo {H H' : Heap} {t n : Int} (hR : HR D dA bs sb scr h H) (e2 : H'.size = H.size + 1) (e3 : ∀ q, q < H.size → H'[q]? = H[q]?) (hC : HC D dA bs sb (al h t n) H' (nx h)) : HR D dA bs sb scr (al h t n) H' := by
  have h2 := hR.1
  have h3 := hR.2.1
  have h5 := hR.2.2.2.2.1
  refine hR.grow (by rw [nx_al]; omega) (fun b j hb => by rw [gv_al, if_neg (by omega)]) (fun b hb => by rw [tg_al, if_neg (by omega)]) (fun b hb => by rw [ln_al, if_neg (by omega)]) (by rw [nx_al]; omega) e3 (fun b g1 g2 => ?_) (fun b g1 => ?_)
  · rw [nx_al] at g2
    rw [show b = nx h by omega]
    exact hC
  · rw [nx_al] at g1
    rw [tg_al, if_neg (by omega)]
    exact h5 b (Or.inr (by omega))
theorem adr_nx {H : Heap} (hR : HR D dA bs sb scr h H) : adr bs sb (nx h) = H.size := by
  rw [adr_2 hR.1, hR.2.1]
theorem s_new (B : Bx D dA bs scr p R s m meth c mc ms d mth) {i k : Nat} (hk : lkC3 (mC mth) i lkC = some k) (h1 : 1 ≤ rc) (h2 : fN k ≤ rs) (hd : decode (minf mth).2.1 pc = .ok (.new i, 3))
    (K : Wc l D dA bs sb scr p e R s m args below meth c mc ms (rc - 1) (rs - fN k) mth (pc + 3) ls (.inr (.inr (nx h)) :: r) (al h (k : Int) (fN k : Int)) q) : Wc l D dA bs sb scr p e R s m args below meth c mc ms rc rs mth pc ls r h q := by
  intro H locs cells slots L hR hz hlo hc hs hL hst
  obtain ⟨hw, hk13⟩ := wd_C hk
  have hKc := B.2.2.2.2.2.2.2.1.2.2.1.1 k _ (qc_at _ hk13)
  have g := B.2.2.2.2.2.2.2.2
  have hnx := hR.1
  have hfc := hKc.2.1
  rw [qc_nm _ hk13] at hfc
  refine W.newcK B.1 B.2.1 B.2.2.2.1 (B.2.2.2.2.2.2.2.1.1 _ hw rfl args) (B.2.2.2.2.2.2.2.1.1 _ (qc_ins _ hk13) rfl args) (B.2.2.2.2.2.2.2.1.1 _ (qc_ini _ hk13) rfl args) rfl hd (by omega) (by omega) hfc rfl fun H1 kC hkC e1 z1 o1 => ?_
  have hb := u_born (tyC k) (fun w hw => B.2.2.2.2.2.2.2.1.1 w (qc_in _ hk13 w hw) (u_good w hw) #[]) (fun w hw => hw) hKc hkC e1 (fun j hj => (tyC_ok hk13 hj).1)
  have K' := K H1 locs (cells + 1) (slots + fN k) L (hR.alo z1 o1 (Or.inl ⟨k, hk13, by rw [tg_al, if_pos rfl], ?_, fun j hj => ?_⟩)) (by omega) hlo (by omega) (by omega) (hL.mono (by rw [nx_al]; omega)) (ok_c ⟨by omega, by rw [nx_al]; omega⟩ (fun v hv => okv_mono (by rw [nx_al]; omega) (hst v hv)))
  · rw [List.map_cons, cv_r (show nx h ≠ 0 by omega), adr_nx hR] at K'
    exact K'
  · rw [adr_nx hR]
    refine hb.to (fun j hj => ?_)
    rw [gv_al, if_pos rfl]
    have := (tyC_ok hk13 hj).2
    exact kt_def this (by have := (qc_fin _ hk13 _ hj).2.2.2; omega)
  · rw [gv_al, if_pos rfl]
    have := (qc_fin _ hk13 _ hj).2.2.2
    generalize fk (100 * k + j) = z at this ⊢
    rcases (show z = 0 ∨ z = 1 ∨ z = 2 ∨ z = 3 by omega) with rfl | rfl | rfl | rfl
    · exact i32_0
    · exact i64_0
    · exact ⟨Int.le_refl 0, by rw [nx_al]; omega⟩
    · exact ⟨by decide, by decide⟩
theorem okx_0 {n : Int} (hn : 0 < n) {k : Nat} : okx n k 0 := by
  unfold okx; split
  · exact i32_0
  · exact i64_0
  · exact ⟨Int.le_refl 0, hn⟩
  · exact ⟨by decide, by decide⟩
  · exact ⟨by decide, by decide⟩
  · exact ⟨by decide, by decide⟩
theorem s_newarray (B : Bx D dA bs scr p R s m meth c mc ms d mth) {t : ArrayType} {k : Int} (h0 : 0 ≤ atc t) (hk : 0 ≤ k) (h1 : 1 ≤ rc) (h2 : k.toNat ≤ rs) (hd : decode (minf mth).2.1 pc = .ok (.newarray t, 2))
    (K : Wc l D dA bs sb scr p e R s m args below meth c mc ms (rc - 1) (rs - k.toNat) mth (pc + 2) ls (.inr (.inr (nx h)) :: r) (al h (atc t) k) q) : Wc l D dA bs sb scr p e R s m args below meth c mc ms rc rs mth pc ls (.inl k :: r) h q := by
  intro H locs cells slots L hR hz hlo hc hs hL hst
  obtain ⟨hx, hst⟩ := ok_1 hst
  have g := B.2.2.2.2.2.2.2.2
  have hnx := hR.1
  have hT : newarray.typeOf t = aty (atc t) ∧ Jvm.Cond.arrayClass (newarray.typeOf t) ∈ lw_tbl ∧ (tysD dA)[(atc t).toNat - 100]? = some (dA ((atc t).toNat - 100), aty (atc t)) ∧ 100 ≤ atc t ∧ atc t < 107 ∧ ktyp (aty (atc t)) = ek (atc t) ∧ componentBytes (newarray.typeOf t) ≤ 8 ∧ (∀ U cA, va_RA U cA (aty (atc t)) → U.vm.findClass ("[" ++ (aty (atc t)).toString) = some cA) := by
    cases t <;> first | (exact absurd h0 (by decide)) | skip
    · exact ⟨rfl, t_a_boolean, rfl, by decide, by decide, rfl, by decide, fun _ _ z => z⟩
    · exact ⟨rfl, t_a_char, rfl, by decide, by decide, rfl, by decide, fun _ _ z => z⟩
    · exact ⟨rfl, t_a_byte, rfl, by decide, by decide, rfl, by decide, fun _ _ z => z⟩
    · exact ⟨rfl, t_a_int, rfl, by decide, by decide, rfl, by decide, fun _ _ z => z⟩
    · exact ⟨rfl, t_a_long, rfl, by decide, by decide, rfl, by decide, fun _ _ z => z⟩
  obtain ⟨T1, T2, T3, T4, T5, T6, T7, T8⟩ := hT
  have hA := B.2.2.2.2.2.2.2.1.2.2.1.2 _ _ T3
  have hcl : (Int32.ofInt k).toNatClampNeg = k.toNat := cl32 hx
  refine va_newaK B.1 B.2.1 (B.2.2.2.2.2.2.2.1.1 _ T2 rfl args) rfl hd rfl (fun z => ?_) hcl ?_ (by omega) (by omega) rfl fun H1 cA e1 z1 o1 hO hfc => ?_
  · have := (lt32 hx i32_0).mp z; omega
  · have : k.toNat * componentBytes (newarray.typeOf t) ≤ k.toNat * 8 := Nat.mul_le_mul_left _ T7
    omega
  · rw [T1] at hfc e1
    have ecA : cA = dA ((atc t).toNat - 100) := Option.some.inj (hfc.symm.trans (T8 _ _ hA.2))
    subst ecA
    have K' := K H1 locs (cells + 1) (slots + k.toNat) L (hR.alo z1 o1 (Or.inr ⟨by rw [tg_al, if_pos rfl]; exact T4, by rw [tg_al, if_pos rfl]; exact T5, by rw [ln_al, if_pos rfl]; exact hk, by rw [ln_al, if_pos rfl]; exact hx.2, ?_, fun j g1 g2 => ?_⟩)) (by omega) hlo (by omega) (by omega) (hL.mono (by rw [nx_al]; omega)) (ok_c ⟨by omega, by rw [nx_al]; omega⟩ (fun v hv => okv_mono (by rw [nx_al]; omega) (hst v hv)))
    · rw [List.map_cons, cv_r (show nx h ≠ 0 by omega), adr_nx hR] at K'
      exact K'
    · rw [adr_nx hR, tg_al, if_pos rfl, ln_al, if_pos rfl, e1]
      unfold arE
      congr 2
      funext j
      rw [gv_al, if_pos rfl]
      exact kt_def T6 (by have := ek_lt (atc t); omega)
    · rw [gv_al, if_pos rfl]
      exact okx_0 (by rw [nx_al]; omega)
end SND
