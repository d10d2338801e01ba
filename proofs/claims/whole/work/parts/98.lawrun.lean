/-! THE LAW, run -/
theorem rp_base (L : Nat) (xs : Nat → Int32) : Rp (h0 L xs) ([], []) (h0 L xs) := by
  refine ⟨rfl, fun k e he => (by cases he), fun b j b2 _ => ?_, fun b j _ => rfl, rfl, rfl, fun _ => rfl⟩
  show (if b = 1 then (xs j.toNat).toInt else 0) = 0
  rw [if_neg (by omega)]
theorem fin_ex : ∃ R R', initX = some (none, R) ∧ nxR R = 66 ∧ initM R = some (none, R') ∧ chkS R' = true := by
  have t := okFin_t
  unfold okFin at t
  generalize initX = v at t
  match v, t with
  | some (none, R), t =>
    have t : (decide (nxR R = 66) && (match initM R with | some (none, R') => chkS R' | _ => false)) = true := t
    rw [Bool.and_eq_true] at t
    obtain ⟨t1, t2⟩ := t
    generalize hm : initM R = u at t2
    match u, t2, hm with
    | some (none, R'), t2, hm => exact ⟨R, R', rfl, of_decide_eq_true t1, hm, t2⟩
set_option maxRecDepth 100000 in
theorem law_run (L : Nat) (xs : Nat → Int32) (hL : L ≤ 3072) : Wp 300 600000 7302250 M_L_law 0 [some (.inr (.inr 1)), none, none, none] [] (h0 L xs) (fun r _ => r = some (.inl 1)) := by
  obtain ⟨R, R', eX, n66, eM, ck⟩ := fin_ex
  refine p_new 3 599999 (7302250 - fN 11) rfl rfl (by decide) (by decide) (by decide) rfl rfl ?_
  have P1 : Rp (h0 L xs) ([(11, 13)], []) (al (h0 L xs) ((11 : Nat) : Int) ((fN 11 : Nat) : Int)) := rp_al (rp_base L xs) 11 13
  have n2 : nx (h0 L xs) = 2 := rfl
  rw [n2]
  have tg2 : tg (al (h0 L xs) ((11 : Nat) : Int) ((fN 11 : Nat) : Int)) 2 = ((11 : Nat) : Int) := (al_new (h0 L xs) _ _).1
  refine p_dup 4 rfl rfl nl_r ?_
  refine p_calli (le := entry M_X11_init [.inr (.inr 2)]) (as := [.inr (.inr 2)]) (rest := [.inr (.inr 2)]) 7 100 20000 599899 (7302250 - fN 11 - 20000) rfl rfl (Nat.le_of_ble_eq_true rfl) rfl (Nat.le_of_ble_eq_true rfl) rfl rfl (Nat.le_of_ble_eq_true rfl) rfl (Nat.le_of_ble_eq_true rfl) rfl (by decide) (by decide) rfl rfl tg2 ?_
  refine ex_ok (h0 L xs) 900 299 100 20000 M_X11_init 0 _ [] ([(11, 13)], []) none R _ _ eX P1 (fun h1 P2 => ?_)
  show Wp 300 599899 (7302250 - fN 11 - 20000) M_L_law 7 [some (.inr (.inr 1)), none, none, none] [.inr (.inr 2)] h1 _
  refine p_astore (ls' := [some (.inr (.inr 1)), some (.inr (.inr 2)), none, none]) 8 rfl rfl (Nat.le_of_ble_eq_true rfl) rfl ?_
  refine p_new 11 599898 (7302250 - fN 11 - 20000 - fN 12) rfl rfl (by decide) (by decide) (by decide) rfl rfl ?_
  have e66 : nx h1 = 66 := P2.1.trans n66
  have P3 : Rp (h0 L xs) (alR R 12 (fN 12)) (al h1 ((12 : Nat) : Int) ((fN 12 : Nat) : Int)) := rp_al P2 12 (fN 12)
  have tg66 : tg (al h1 ((12 : Nat) : Int) ((fN 12 : Nat) : Int)) 66 = ((12 : Nat) : Int) := by rw [← e66]; exact (al_new h1 _ _).1
  rw [e66]
  refine p_dup 12 rfl rfl nl_r ?_
  refine p_calli (le := entry M_X12_init [.inr (.inr 66)]) (as := [.inr (.inr 66)]) (rest := [.inr (.inr 66)]) 15 80 300000 599818 (7302250 - fN 11 - 20000 - fN 12 - 300000) rfl rfl (Nat.le_of_ble_eq_true rfl) rfl (Nat.le_of_ble_eq_true rfl) rfl rfl (Nat.le_of_ble_eq_true rfl) rfl (Nat.le_of_ble_eq_true rfl) rfl (by decide) (by decide) rfl rfl tg66 ?_
  refine ex_ok (h0 L xs) 900 299 80 300000 M_X12_init 0 _ [] (alR R 12 (fN 12)) none R' _ _ eM P3 (fun h2 P4 => ?_)
  show Wp 300 599818 (7302250 - fN 11 - 20000 - fN 12 - 300000) M_L_law 15 [some (.inr (.inr 1)), some (.inr (.inr 2)), none, none] [.inr (.inr 66)] h2 _
  obtain ⟨S, V⟩ := start_inv P4 ck
  refine p_astore (ls' := [some (.inr (.inr 1)), some (.inr (.inr 2)), some (.inr (.inr 66)), none]) 16 rfl rfl (Nat.le_of_ble_eq_true rfl) rfl ?_
  refine p_const 17 rfl rfl ?_
  refine p_istore (ls' := [some (.inr (.inr 1)), some (.inr (.inr 2)), some (.inr (.inr 66)), some (.inl 0)]) 18 rfl rfl (Nat.le_of_ble_eq_true rfl) rfl ?_
  exact lw_loop (d := 267) hL (fun _ => rfl) 512 _ _ 0 h2 (Int.le_refl 0) (Int.natCast_nonneg _) (by omega) (by decide) (by decide) ⟨rfl, P4.2.2.2.2.1, P4.2.2.2.2.2.1⟩ S V

