/-! PAIRS OF CALLS: the answer is the same, all stays alike -/
theorem Sc.rf (h : PH) : Sc h h := ⟨rfl, rfl, fun _ => rfl⟩
theorem inv_F {h : PH} (I : Inv h) : FI h := I.1
theorem inv_A {h : PH} (I : Inv h) : AI h := I.2.1
theorem inv_M {h : PH} (I : Inv h) : MI h := I.2.2.1
theorem inv_S {h : PH} (I : Inv h) : SentI h := I.2.2.2.1
theorem inv_L {h : PH} (I : Inv h) : LineI h := I.2.2.2.2.1
theorem inv_C {h : PH} (I : Inv h) : ChI h := I.2.2.2.2.2.1
theorem inv_T {h : PH} (I : Inv h) : TI h := I.2.2.2.2.2.2.1
theorem inv_W {h : PH} (I : Inv h) : WrdI h := I.2.2.2.2.2.2.2.1
/-! feed, end -/
def FeedX (a b c e f : Int) (h : PH) (r : Int) (h' : PH) : Prop := (680 < gv h 3 1 ∧ r = -1 ∧ h' = h) ∨ (gv h 3 1 ≤ 680 ∧ r = gv h 3 1 + 20 ∧ Keep putA h h' ∧ gv h' 3 1 = gv h 3 1 + 20 ∧ (∀ i, i < gv h 3 1 → gv h' 4 i = gv h 4 i) ∧ ∀ k, 0 ≤ k → k < 20 → gv h' 4 (gv h 3 1 + k) % 256 = byt (sel5 a b c e f k) (k % 4))
def FeedM (a b c e f : Int) (h : PH) (r : Int) (h' : PH) : Prop := (680 < gv h 66 1 ∧ r = -1 ∧ h' = h) ∨ (gv h 66 1 ≤ 680 ∧ r = gv h 66 1 + 20 ∧ Keep mputA h h' ∧ gv h' 66 1 = gv h 66 1 + 20 ∧ (∀ i, i < gv h 66 1 → gv h' 67 i = gv h 67 i) ∧ ∀ k, 0 ≤ k → k < 20 → gv h' 67 (gv h 66 1 + k) = byt (sel5 a b c e f k) (k % 4))
theorem feed_mid {h h1 : PH} {a b c e f r : Int} (I : Inv h) (x : FeedX a b c e f h r h1) : Sc h h1 ∧ gv h1 66 1 = gv h 66 1 ∧ 0 ≤ gv h1 66 1 ∧ gv h1 66 1 ≤ 700 := by
  have t := (inv_T I).1
  have t2 := (inv_T I).2.1
  rcases x with ⟨_, _, e⟩ | ⟨_, _, k, _⟩
  · rw [e]; exact ⟨Sc.rf h, rfl, by omega, by omega⟩
  · have e := k.1 66 1 rfl
    exact ⟨sc_of k (fun _ => rfl), e, by omega, by omega⟩
theorem feed_same {h h1 h2 : PH} {a b c e f r r' : Int} (I : Inv h) (x : FeedX a b c e f h r h1) (m : FeedM a b c e f h1 r' h2) : r = r' ∧ Inv h2 ∧ Sc h h2 := by
  have em := (feed_mid I x).2.1
  have t2 := (inv_T I).2.1
  rcases x with ⟨x1, x2, x3⟩ | ⟨x1, x2, x3, x4, x5, x6⟩ <;> rcases m with ⟨m1, m2, m3⟩ | ⟨m1, m2, m3, m4, m5, m6⟩
  · rw [m3, x3]; exact ⟨by omega, I, Sc.rf h⟩
  · omega
  · omega
  · refine ⟨by omega, inv_feA I ((x3.wide putA_feA).trans (m3.wide mputA_feA)) ⟨?_, ?_, fun i i0 i1 => ?_⟩⟩
    · rw [m3.1 3 1 rfl, x4]; have := (inv_T I).1; omega
    · rw [m4, m3.1 3 1 rfl, x4]; omega
    · rw [m3.1 3 1 rfl, x4] at i1
      rw [m3.1 4 i rfl]
      by_cases z : i < gv h 3 1
      · rw [x5 i z, m5 i (by omega), x3.1 67 i rfl]; exact (inv_T I).2.2 i i0 z
      · have a1 := x6 (i - gv h 3 1) (by omega) (by omega)
        have b1 := m6 (i - gv h 3 1) (by omega) (by omega)
        rw [show gv h 3 1 + (i - gv h 3 1) = i by omega] at a1
        rw [show gv h1 66 1 + (i - gv h 3 1) = i by omega] at b1
        rw [a1, b1]
theorem end_mid {h h1 : PH} {n r : Int} (x : ((n < 0 ∨ gv h 3 1 < n) ∧ r = 0 ∧ h1 = h) ∨ (0 ≤ n ∧ n ≤ gv h 3 1 ∧ r = 1 ∧ Keep endA h h1 ∧ gv h1 3 1 = n)) : Sc h h1 := by
  rcases x with ⟨_, _, e⟩ | ⟨_, _, _, k, _⟩
  · rw [e]; exact Sc.rf h
  · exact sc_of k (fun _ => rfl)
theorem end_same {h h1 h2 : PH} {n r r' : Int} (I : Inv h) (x : ((n < 0 ∨ gv h 3 1 < n) ∧ r = 0 ∧ h1 = h) ∨ (0 ≤ n ∧ n ≤ gv h 3 1 ∧ r = 1 ∧ Keep endA h h1 ∧ gv h1 3 1 = n)) (m : ((n < 0 ∨ gv h1 66 1 < n) ∧ r' = 0 ∧ h2 = h1) ∨ (0 ≤ n ∧ n ≤ gv h1 66 1 ∧ r' = 1 ∧ Keep mendA h1 h2 ∧ gv h2 66 1 = n)) : r = r' ∧ Inv h2 ∧ Sc h h2 := by
  have t2 := (inv_T I).2.1
  rcases x with ⟨x1, x2, x3⟩ | ⟨x1, x2, x3, x4, x5⟩ <;> rcases m with ⟨m1, m2, m3⟩ | ⟨m1, m2, m3, m4, m5⟩
  · rw [m3, x3]; exact ⟨by omega, I, Sc.rf h⟩
  · rw [x3] at m2; omega
  · have e := x4.1 66 1 rfl; omega
  · have t1 := (inv_T I).1
    refine ⟨by omega, inv_feA I ((x4.wide endA_feA).trans (m4.wide mendA_feA)) ⟨?_, ?_, fun i i0 i1 => ?_⟩⟩
    · rw [m4.1 3 1 rfl, x5]; omega
    · rw [m4.1 3 1 rfl, x5]; exact m5
    · rw [m4.1 3 1 rfl, x5] at i1
      rw [m4.1 4 i rfl, m4.1 67 i rfl, x4.1 4 i rfl, x4.1 67 i rfl]; exact (inv_T I).2.2 i i0 (by omega)
/-! flags -/
theorem locker_kp {u v a b c r : Int} {h h1 : PH} (x : LockerR u v a b c h r h1) : Keep (fun a _ => decide (a = u ∨ a = v)) h h1 := by
  rcases x with ⟨_, _, e⟩ | ⟨_, _, e⟩
  · rw [e]; exact Keep.rf _ _
  · rw [e]; exact ((Keep.rf _ _).sv (decide_eq_true (Or.inl rfl)) _).sv (decide_eq_true (Or.inr rfl)) _
theorem locker_mid {a b c r : Int} {h h1 : PH} (x : LockerR 6 7 a b c h r h1) : Sc h h1 := sc_of (locker_kp x) (fun _ => rfl)
theorem locker_same {a b c r r' : Int} {h h1 h2 : PH} (I : Inv h) (x : LockerR 6 7 a b c h r h1) (m : LockerR 86 87 a b c h1 r' h2) : r = r' ∧ Inv h2 ∧ Sc h h2 := by
  obtain ⟨e, F⟩ := FI_locker (inv_F I) x m
  exact ⟨e, inv_loA I (((locker_kp x).wide (fun a i => dw (by omega))).trans ((locker_kp m).wide (fun a i => dw (by omega)))) F⟩
theorem far_kp {u a b r : Int} {h h1 : PH} (x : FarR u a b h r h1) : Keep (fun a _ => decide (a = u)) h h1 := by
  rcases x with ⟨_, _, e⟩ | ⟨_, _, e⟩
  · rw [e]; exact Keep.rf _ _
  · rw [e]; exact (Keep.rf _ _).sv (decide_eq_true rfl) _
theorem far_mid {a b r : Int} {h h1 : PH} (x : FarR 8 a b h r h1) : Sc h h1 := sc_of (far_kp x) (fun _ => rfl)
theorem far_same {a b r r' : Int} {h h1 h2 : PH} (I : Inv h) (x : FarR 8 a b h r h1) (m : FarR 91 a b h1 r' h2) : r = r' ∧ Inv h2 ∧ Sc h h2 := by
  obtain ⟨e, F⟩ := FI_far (inv_F I) x m
  exact ⟨e, inv_frA I (((far_kp x).wide (fun a i => dw (by omega))).trans ((far_kp m).wide (fun a i => dw (by omega)))) F⟩
theorem like_kpx {f g e r : Int} {h h1 : PH} (x : LikeX f g e h r h1) : Keep (fun a _ => decide (a = 9)) h h1 := by
  rcases x with ⟨_, _, e⟩ | ⟨_, _, _, e⟩ | ⟨_, _, _, e⟩
  · rw [e]; exact Keep.rf _ _
  · rw [e]; exact Keep.rf _ _
  · rw [e]; exact ((Keep.rf _ _).sv rfl _).sv rfl _
theorem like_kpm {f g e r : Int} {h h1 : PH} (x : LikeM f g e h r h1) : Keep (fun a _ => decide (a = 88)) h h1 := by
  rcases x with ⟨_, _, e⟩ | ⟨_, _, _, e⟩ | ⟨_, _, _, e⟩
  · rw [e]; exact Keep.rf _ _
  · rw [e]; exact Keep.rf _ _
  · rw [e]; exact ((Keep.rf _ _).sv rfl _).sv rfl _
theorem like_mid {f g e r : Int} {h h1 : PH} (x : LikeX f g e h r h1) : Sc h h1 := sc_of (like_kpx x) (fun _ => rfl)
theorem like_same {f g e r r' : Int} {h h1 h2 : PH} (I : Inv h) (x : LikeX f g e h r h1) (m : LikeM f g e h1 r' h2) : r = r' ∧ Inv h2 ∧ Sc h h2 := by
  obtain ⟨e, F⟩ := FI_like (inv_F I) x m
  exact ⟨e, inv_lyA I (((like_kpx x).wide (fun a i => dw (by omega))).trans ((like_kpm m).wide (fun a i => dw (by omega)))) F⟩
theorem hazA_f {a i : Int} (z : ¬ a = 10) : hazA a i = false := by
  unfold hazA
  cases c1 : (a == 10) <;> first | rfl | (exfalso; apply z; simp only [beq_iff_eq] at *; omega)
theorem haze_kpx {a b r : Int} {h h1 : PH} (x : HazeX a b h r h1) : Keep (fun a _ => decide (a = 10)) h h1 := by
  rcases x with ⟨_, _, e⟩ | ⟨_, _, k, t, _⟩
  · rw [e]; exact Keep.rf _ _
  · exact t.2.2.1.wide (fun a i z => hazA_f (of_decide_eq_false z))
theorem haze_kpm {a b r : Int} {h h1 : PH} (x : HazeM a b h r h1) : Keep (fun a _ => decide (a = 89 ∨ a = 90)) h h1 := by
  rcases x with ⟨_, _, e⟩ | ⟨_, _, e⟩
  · rw [e]; exact Keep.rf _ _
  · rw [e]; exact ((Keep.rf _ _).sv rfl _).sv rfl _
theorem haze_mid {a b r : Int} {h h1 : PH} (x : HazeX a b h r h1) : Sc h h1 := sc_of (haze_kpx x) (fun _ => rfl)
theorem haze_same {a b r r' : Int} {h h1 h2 : PH} (I : Inv h) (x : HazeX a b h r h1) (m : HazeM a b h1 r' h2) : r = r' ∧ Inv h2 ∧ Sc h h2 := by
  obtain ⟨e, F⟩ := FI_haze (inv_F I) x m
  exact ⟨e, inv_haA I (((haze_kpx x).wide (fun a i => dw (by omega))).trans ((haze_kpm m).wide (fun a i => dw (by omega)))) F⟩
/-! questions of the flags -/
theorem dim_pre {h : PH} (F : FI h) : (∀ s, 0 ≤ s → s < 9 → 0 ≤ gv h 8 s ∧ gv h 8 s ≤ 9) ∧ (∀ t, 0 ≤ t → t < 1000 → 0 ≤ gv h 10 t ∧ gv h 10 t ≤ 19) ∧ (∀ s, 0 ≤ s → s < 9 → 0 ≤ gv h 91 s ∧ gv h 91 s ≤ 9) ∧ ∀ t : Nat, t ≤ 1000 → 0 ≤ hz h t ∧ hz h t ≤ 9 :=
  ⟨fun s a b => F.f8 s a b, fun t a b => ⟨(F.h10 t a b).1, (F.h10 t a b).2.1⟩, fun s a b => (F.fr s a b).2, hz_in F.hn⟩
theorem dim_same {h : PH} {a b r r' : Int} (F : FI h) (x : (¬ (0 ≤ a ∧ a < 9 ∧ 0 ≤ b ∧ b < 1000) ∧ r = -1) ∨ ((0 ≤ a ∧ a < 9 ∧ 0 ≤ b ∧ b < 1000) ∧ r = gv h 8 a + gv h 10 b / 2)) (m : (¬ (0 ≤ a ∧ a < 9 ∧ 0 ≤ b ∧ b < 1000) ∧ r' = -1) ∨ ((0 ≤ a ∧ a < 9 ∧ 0 ≤ b ∧ b < 1000) ∧ r' = gv h 91 a + hz h (b + 1).toNat)) : r = r' := by
  rcases x with ⟨x1, x2⟩ | ⟨x1, x2⟩ <;> rcases m with ⟨m1, m2⟩ | ⟨m1, m2⟩
  · omega
  · exact absurd m1 x1
  · exact absurd x1 m1
  · rw [x2, m2, (F.fr a x1.1 x1.2.1).1, (F.h10 b x1.2.2.1 x1.2.2.2).2.2]
theorem hoist_pre {h : PH} (F : FI h) : (∀ s, 0 ≤ s → s < 10 → 0 ≤ gv h 6 s ∧ gv h 6 s < 67108864 ∧ 0 ≤ gv h 7 s ∧ gv h 7 s ≤ 3) ∧ ∀ s, 0 ≤ s → s < 10 → 0 ≤ gv h 86 s ∧ gv h 86 s < 67108864 ∧ 0 ≤ gv h 87 s ∧ gv h 87 s ≤ 3 := by
  constructor
  · intro s s0 s1
    have a := F.lk s s0 s1
    have b := F.rp s s0 s1
    omega
  · intro s s0 s1
    have a := F.lk s s0 s1
    have b := F.rp s s0 s1
    omega
theorem hoist_same2 {h : PH} {s v r r' : Int} (F : FI h) (x : HoistA s v (gv h 6 s) (gv h 7 s) r) (m : HoistA s v (gv h 86 s) (gv h 87 s) r') : r = r' := by
  by_cases z : 0 ≤ s ∧ s < 10
  · rw [(F.lk s z.1 z.2).1, (F.rp s z.1 z.2).1] at x
    exact hoist_same x m
  · rcases x with ⟨_, x2⟩ | ⟨x1, _⟩
    · rcases m with ⟨_, m2⟩ | ⟨m1, _⟩
      · omega
      · exact absurd ⟨m1.1, m1.2.1⟩ z
    · exact absurd ⟨x1.1, x1.2.1⟩ z
theorem letter_same {h : PH} {i c k r r' : Int} (x : LetR h i c k r) (m : LetR h i c k r') : r = r' := by
  rcases x with ⟨x1, x2⟩ | ⟨x1, x2⟩ <;> rcases m with ⟨m1, m2⟩ | ⟨m1, m2⟩
  · omega
  · exact absurd m1 x1
  · exact absurd x1 m1
  · rw [x2, m2]
theorem along_same {h : PH} {s w r r' : Int} (x : AlongR h s w r) (m : AlongR h s w r') : r = r' := by
  rcases x with ⟨x1, x2⟩ | ⟨x1, x2⟩ <;> rcases m with ⟨m1, m2⟩ | ⟨m1, m2⟩
  · omega
  · exact absurd m1 x1
  · exact absurd x1 m1
  · rw [x2, m2]
theorem holds_same {h h' : PH} {i s t r r' : Int} (x : HldR h i s t r) (K : Keep bkB h h') (m : HldR h' i s t r') : r = r' := by
  unfold HldR argH at x m
  rw [kb_congr K, zh_congr K, tv_congr K, (bk_congr K (kb h)).2.2.2.2.2] at m
  rcases x with ⟨x1, x2⟩ | ⟨x1, x2⟩ <;> rcases m with ⟨m1, m2⟩ | ⟨m1, m2⟩
  · omega
  · exact absurd m1 x1
  · exact absurd x1 m1
  · rw [x2, m2]
/-! acts -/
theorem flown_kp {h h1 : PH} {s t w r : Int} (x : FlownX s t w h r h1) : Keep atA h h1 := by
  rcases x with ⟨_, _, e⟩ | ⟨_, _, e⟩
  · rw [e]; exact Keep.rf _ _
  · rw [e]; exact ((((Keep.rf _ _).sv rfl _).sv rfl _).sv rfl _).sv rfl _
theorem flown_mid {h h1 : PH} {s t w r : Int} (I : Inv h) (x : FlownX s t w h r h1) : Sc h h1 ∧ 0 ≤ gv h1 66 40 ∧ gv h1 66 40 ≤ 200 := by
  have a := (inv_A I).1
  have e : gv h1 66 40 = gv h 66 40 := by
    rcases x with ⟨_, _, e⟩ | ⟨_, _, e⟩
    · rw [e]
    · rw [e, sv_ne (by decide), sv_ne (by decide), sv_ne (by decide), sv_ne (by decide)]
  exact ⟨sc_of (flown_kp x) (fun _ => rfl), by omega, by omega⟩
theorem flown_same2 {h h1 h2 : PH} {s t w r r' : Int} (I : Inv h) (x : FlownX s t w h r h1) (m : FlownM s t w h1 r' h2) : r = r' ∧ Inv h2 ∧ Sc h h2 := by
  obtain ⟨e, A, k⟩ := flown_same (inv_A I) x m
  exact ⟨e, inv_atA I (k.wide allA_atA) A⟩
theorem annul_kp {h h1 : PH} {k r : Int} (x : AnnulX k h r h1) : Keep atA h h1 := by
  rcases x with ⟨_, _, e⟩ | ⟨_, _, e⟩
  · rw [e]; exact Keep.rf _ _
  · rw [e]; exact ((Keep.rf _ _).sv rfl _).sv rfl _
theorem annul_mid {h h1 : PH} {k r : Int} (I : Inv h) (x : AnnulX k h r h1) : Sc h h1 ∧ 0 ≤ gv h1 66 40 ∧ gv h1 66 40 ≤ 200 := by
  have a := (inv_A I).1
  have e : gv h1 66 40 = gv h 66 40 := by
    rcases x with ⟨_, _, e⟩ | ⟨_, _, e⟩
    · rw [e]
    · rw [e, sv_ne (by decide), sv_ne (by decide)]
  exact ⟨sc_of (annul_kp x) (fun _ => rfl), by omega, by omega⟩
theorem annul_same2 {h h1 h2 : PH} {k r r' : Int} (I : Inv h) (x : AnnulX k h r h1) (m : AnnulM k h1 r' h2) : r = r' ∧ Inv h2 ∧ Sc h h2 := by
  obtain ⟨e, A, k⟩ := annul_same (inv_A I) x m
  exact ⟨e, inv_atA I (k.wide allA_atA) A⟩
theorem as_mid {h h1 : PH} {n lim r : Int} (x : AsR 18 6 n lim h r h1) : Sc h h1 := by
  rcases x with ⟨_, _, e⟩ | ⟨_, _, e⟩
  · rw [e]; exact Sc.rf h
  · rw [e]; exact sc_of (A := atA) ((Keep.rf _ _).sv rfl _) (fun _ => rfl)
theorem as_same2 {h h1 h2 : PH} {n r r' : Int} (I : Inv h) (x : AsR 18 6 n (gv h 18 5) h r h1) (m : AsR 66 46 n (gv h1 66 40) h1 r' h2) : r = r' ∧ Inv h2 ∧ Sc h h2 := by
  obtain ⟨e, A, k⟩ := as_same (inv_A I) x m
  exact ⟨e, inv_atA I (k.wide allA_atA) A⟩
/-! messages, the line, the other side -/
theorem message_same2 {h h1 h2 : PH} {r r' : Int} (I : Inv h) (k1 : Keep xmA h h1) (x : MsgX h r h1) (k2 : Keep mmA h1 h2) (m : MsgM h1 (tx h) (gv h 3 1) r' h2) : r = r' ∧ Inv h2 ∧ Sc h h2 := by
  obtain ⟨e, M, T⟩ := message_same (inv_T I) (inv_M I) k1 x k2 m
  exact ⟨e, inv_meA I ((k1.wide xmA_meA).trans (k2.wide mmA_meA)) M T⟩
theorem send_mid {h h1 : PH} (I : Inv h) (k1 : Keep sxA h h1) : AI h1 ∧ FI h1 ∧ MI h1 ∧ Sc h h1 :=
  ⟨(inv_A I).kp (k1.wide sxA_bkB), (inv_F I).kp (k1.wide sxA_bkB), (inv_M I).kp (fun a i z => k1.1 a i (decide_eq_false (by omega))), sc_of k1 (fun _ => rfl)⟩
theorem send_same2 {h h1 h2 : PH} {s t r r' : Int} (I : Inv h) (k1 : Keep sxA h h1) (x : SendX h s t r h1) (k2 : Keep smA h1 h2) (m : SendM h1 s t r' h2) : r = r' ∧ Inv h2 ∧ Sc h h2 := by
  obtain ⟨e, T⟩ := send_same (inv_A I) (inv_M I) (inv_S I) k1 x k2 m
  exact ⟨e, inv_sdB I ((k1.wide sxA_sdB).trans (k2.wide smA_sdB)) T⟩
theorem line_mid {h h1 : PH} (I : Inv h) (k1 : Keep lxA h h1) : AI h1 ∧ FI h1 ∧ MI h1 ∧ Sc h h1 :=
  ⟨(inv_A I).kp (k1.wide lxA_bkB), (inv_F I).kp (k1.wide lxA_bkB), (inv_M I).kp (fun a i z => k1.1 a i (decide_eq_false (by omega))), sc_of k1 (fun _ => rfl)⟩
theorem line_same2 {h h1 h2 : PH} {last t r r' : Int} (I : Inv h) (k1 : Keep lxA h h1) (x : LineX h last t r h1) (k2 : Keep lmA h1 h2) (m : LineM h1 last t r' h2) : r = r' ∧ Inv h2 ∧ Sc h h2 := by
  obtain ⟨e, T⟩ := line_same (inv_L I) k1 x k2 m
  exact ⟨e, inv_liA I ((k1.wide lxA_liA).trans (k2.wide lmA_liA)) T⟩
theorem change_mid {h h1 : PH} (I : Inv h) (k1 : Keep fcA h h1) : AI h1 ∧ FI h1 ∧ Sc h h1 :=
  ⟨(inv_A I).kp (k1.wide fcA_bkB), (inv_F I).kp (k1.wide fcA_bkB), sc_of k1 (fun _ => rfl)⟩
theorem change_same2 {h h1 h2 : PH} {n r r' : Int} (I : Inv h) (k1 : Keep fcA h h1) (x : ChgX h n r h1) (k2 : Keep mchA h1 h2) (m : ChgM h1 n r' h2) : r = r' ∧ Inv h2 ∧ Sc h h2 := by
  obtain ⟨e, T⟩ := change_same (inv_C I) k1 x k2 m
  exact ⟨e, inv_cgA I ((k1.wide fcA_cgA).trans (k2.wide mchA_cgA)) T⟩
theorem ask_mid {h h1 : PH} (I : Inv h) (k1 : Keep xA h h1) : Keep bkB h h1 ∧ AI h1 ∧ FI h1 ∧ Sc h h1 :=
  ⟨k1.wide xA_bkB, (inv_A I).kp (k1.wide xA_bkB), (inv_F I).kp (k1.wide xA_bkB), sc_of k1 (fun _ => rfl)⟩

