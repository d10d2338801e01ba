/-! THE LAW: its loop, its start -/
section LOOP
variable {d rc rs L : Nat} {h : PH} {q : PQ} {i sc : Int}
set_option maxRecDepth 100000 in
theorem lw_book (A : ScA h sc L) (S : Shape h) (V : Inv h) (K : ∀ h', Inv h' → Sc h h' → Shape h' → Wp (d + 33) (rc - 8) (rs - 3000) M_L_law 1087 [some (.inr (.inr sc)), some (.inr (.inr 2)), some (.inr (.inr 66)), some (.inl i)] [] h' q) (r8 : 8 ≤ rc) (r3 : 3000 ≤ rs) : Wp (d + 33) rc rs M_L_law 491 [some (.inr (.inr sc)), some (.inr (.inr 2)), some (.inr (.inr 66)), some (.inl i)] [] h q := by
  refine p_aload 492 rfl rfl rfl ?_
  refine p_callv (le := [some (.inr (.inr 2)), none]) (as := [.inr (.inr 2)]) (rest := []) 495 8 3000 (rc - 8) (rs - 3000) rfl rfl (Nat.le_of_ble_eq_true rfl) rfl (Nat.le_of_ble_eq_true rfl) rfl rfl (Nat.le_of_ble_eq_true rfl) rfl (Nat.le_of_ble_eq_true rfl) rfl r8 r3 rfl rfl (tg_2 S) ?_
  refine Wp_post (book_pair (d := d) (d2 := d + 22) (Q := fun r r2 h2 => r = r2 ∧ Inv h2 ∧ Sc h h2 ∧ Shape h2) S V (fun r h2 V2 s2 S2 => ⟨rfl, V2, s2, S2⟩)) (fun v h1 p => ?_)
  obtain ⟨r, ev, S1, s1, W⟩ := p
  subst ev
  show Wp (d + 33) (rc - 8) (rs - 3000) M_L_law 495 [some (.inr (.inr sc)), some (.inr (.inr 2)), some (.inr (.inr 66)), some (.inl i)] [.inl r] h1 q
  refine p_aload 496 rfl rfl rfl ?_
  refine p_callv (le := [some (.inr (.inr 66)), none, none]) (as := [.inr (.inr 66)]) (rest := [.inl r]) 499 0 0 (rc - 8) (rs - 3000) rfl rfl (Nat.le_of_ble_eq_true rfl) rfl (Nat.le_of_ble_eq_true rfl) rfl rfl (Nat.le_of_ble_eq_true rfl) rfl (Nat.le_of_ble_eq_true rfl) rfl (Nat.zero_le _) (Nat.zero_le _) rfl rfl (tg_66 S1) ?_
  refine Wp_post W (fun v2 h2 p2 => ?_)
  obtain ⟨r2, ev2, er, V2, s2, S2⟩ := p2
  subst ev2
  show Wp (d + 33) (rc - 8) (rs - 3000) M_L_law 499 [some (.inr (.inr sc)), some (.inr (.inr 2)), some (.inr (.inr 66)), some (.inl i)] [.inl r2, .inl r] h2 q
  refine p_ic_eq_t 1087 rfl rfl (by omega) ?_
  exact K h2 V2 s2 S2
end LOOP
set_option maxRecDepth 100000 in
theorem lw_loop {d L : Nat} {q : PQ} {sc : Int} (hL : L ≤ 3072) (Q : ∀ h', q (some (.inl 1)) h') : ∀ (c rc rs : Nat) (i : Int) (h : PH), 0 ≤ i → i ≤ L → (L : Int) - i < 6 * (c + 1) → 8 * c ≤ rc → 3000 * c ≤ rs → ScA h sc L → Shape h → Inv h → Wp (d + 33) rc rs M_L_law 18 [some (.inr (.inr sc)), some (.inr (.inr 2)), some (.inr (.inr 66)), some (.inl i)] [] h q := by
  intro c
  induction c with
  | zero =>
    intro rc rs i h i0 iL lc hc hs A S V
    obtain ⟨esc, t1, l1⟩ := id A
    refine p_iload 19 rfl rfl rfl ?_
    refine p_aload 20 rfl rfl rfl ?_
    refine p_alen (w := (L:Int)) 21 rfl rfl (by rw [t1]; decide) l1 ?_
    refine p_const 23 rfl rfl ?_
    refine p_isub (z := (L:Int) - 6) 24 rfl rfl (w32_id ⟨(by omega), (by omega)⟩) ?_
    refine p_ic_gt_t 1093 rfl rfl (by omega) ?_
    refine p_const 1094 rfl rfl ?_
    refine p_zret rfl rfl (by decide) ?_
    -- leaf 1: answer [.inl 1] h=h 
    exact Q h
  | succ c ih =>
    intro rc rs i h i0 iL lc hc hs A S V
    obtain ⟨esc, t1, l1⟩ := id A
    have back : ∀ (rc rs : Nat) (h' : PH), 8 * c ≤ rc → 3000 * c ≤ rs → i + 6 ≤ L → Inv h' → Sc h h' → Shape h' → Wp (d + 33) rc rs M_L_law 1087 [some (.inr (.inr sc)), some (.inr (.inr 2)), some (.inr (.inr 66)), some (.inl i)] [] h' q := by
      intro rc rs h' hc hs i6 V' s' S'
      refine p_iinc (y := i + 6) (ls' := [some (.inr (.inr sc)), some (.inr (.inr 2)), some (.inr (.inr 66)), some (.inl (i + 6))]) 1090 rfl rfl rfl (w32_id ⟨by omega, by omega⟩) rfl ?_
      refine p_goto 18 rfl rfl ?_
      exact ih rc rs (i + 6) h' (by omega) i6 (by omega) hc hs (A.of s') S' V'
    refine p_iload 19 rfl rfl rfl ?_
    refine p_aload 20 rfl rfl rfl ?_
    refine p_alen (w := (L:Int)) 21 rfl rfl (by rw [t1]; decide) l1 ?_
    refine p_const 23 rfl rfl ?_
    refine p_isub (z := (L:Int) - 6) 24 rfl rfl (w32_id ⟨(by omega), (by omega)⟩) ?_
    refine p_ic_gt 27 1093 rfl rfl rfl (fun c1 => ?_) (fun c1 => ?_)
    · skip
      refine p_const 1094 rfl rfl ?_
      refine p_zret rfl rfl (by decide) ?_
      -- leaf 1: answer [.inl 1] h=h 
      exact Q h
    · skip
      refine p_aload 28 rfl rfl rfl ?_
      refine p_iload 29 rfl rfl rfl ?_
      refine p_iald (w := (L:Int)) (z := gv h sc i) 30 rfl rfl t1 l1 (by omega) (by omega) rfl ?_
      refine p_const 32 rfl rfl ?_
      refine p_iand (z := (gv h sc i) % 32) 33 rfl rfl (mask32 5 rfl (by decide)) ?_
      refine p_swt rfl ?_
      refine ⟨fun c2 => ?_, fun c2 => ?_⟩
      · show Wp (d + 33) rc rs M_L_law 164 [some (.inr (.inr sc)), some (.inr (.inr 2)), some (.inr (.inr 66)), some (.inl i)] [] h _
        -- leaf 2: loop 164 [some (.inr (.inr sc)), some (.inr (.inr 2)), some (.inr (.inr 66)), some (.inl i)] st=[] h=h 
        exact lw_feed hL A i0 (by omega) S V rfl rfl rfl rfl rfl (fun h' V' s' S' => back _ _ h' (by omega) (by omega) (by omega) V' s' S')
      · have c2_0 := c2
        refine ⟨fun c2 => ?_, fun c2 => ?_⟩
        · show Wp (d + 33) rc rs M_L_law 227 [some (.inr (.inr sc)), some (.inr (.inr 2)), some (.inr (.inr 66)), some (.inl i)] [] h _
          -- leaf 3: loop 227 [some (.inr (.inr sc)), some (.inr (.inr 2)), some (.inr (.inr 66)), some (.inl i)] st=[] h=h 
          exact lw_end hL A i0 (by omega) S V rfl (fun h' V' s' S' => back _ _ h' (by omega) (by omega) (by omega) V' s' S')
        · have c2_1 := c2
          refine ⟨fun c2 => ?_, fun c2 => ?_⟩
          · show Wp (d + 33) rc rs M_L_law 250 [some (.inr (.inr sc)), some (.inr (.inr 2)), some (.inr (.inr 66)), some (.inl i)] [] h _
            -- leaf 4: loop 250 [some (.inr (.inr sc)), some (.inr (.inr 2)), some (.inr (.inr 66)), some (.inl i)] st=[] h=h 
            exact lw_locker hL A i0 (by omega) S V rfl rfl rfl (fun h' V' s' S' => back _ _ h' (by omega) (by omega) (by omega) V' s' S')
          · have c2_2 := c2
            refine ⟨fun c2 => ?_, fun c2 => ?_⟩
            · show Wp (d + 33) rc rs M_L_law 293 [some (.inr (.inr sc)), some (.inr (.inr 2)), some (.inr (.inr 66)), some (.inl i)] [] h _
              -- leaf 5: loop 293 [some (.inr (.inr sc)), some (.inr (.inr 2)), some (.inr (.inr 66)), some (.inl i)] st=[] h=h 
              exact lw_like hL A i0 (by omega) S V rfl rfl rfl (fun h' V' s' S' => back _ _ h' (by omega) (by omega) (by omega) V' s' S')
            · have c2_3 := c2
              refine ⟨fun c2 => ?_, fun c2 => ?_⟩
              · show Wp (d + 33) rc rs M_L_law 336 [some (.inr (.inr sc)), some (.inr (.inr 2)), some (.inr (.inr 66)), some (.inl i)] [] h _
                -- leaf 6: loop 336 [some (.inr (.inr sc)), some (.inr (.inr 2)), some (.inr (.inr 66)), some (.inl i)] st=[] h=h 
                exact lw_haze hL A i0 (by omega) S V rfl rfl (fun h' V' s' S' => back _ _ h' (by omega) (by omega) (by omega) V' s' S')
              · have c2_4 := c2
                refine ⟨fun c2 => ?_, fun c2 => ?_⟩
                · show Wp (d + 33) rc rs M_L_law 369 [some (.inr (.inr sc)), some (.inr (.inr 2)), some (.inr (.inr 66)), some (.inl i)] [] h _
                  -- leaf 7: loop 369 [some (.inr (.inr sc)), some (.inr (.inr 2)), some (.inr (.inr 66)), some (.inl i)] st=[] h=h 
                  exact lw_far hL A i0 (by omega) S V rfl rfl (fun h' V' s' S' => back _ _ h' (by omega) (by omega) (by omega) V' s' S')
                · have c2_5 := c2
                  refine ⟨fun c2 => ?_, fun c2 => ?_⟩
                  · show Wp (d + 33) rc rs M_L_law 402 [some (.inr (.inr sc)), some (.inr (.inr 2)), some (.inr (.inr 66)), some (.inl i)] [] h _
                    -- leaf 8: loop 402 [some (.inr (.inr sc)), some (.inr (.inr 2)), some (.inr (.inr 66)), some (.inl i)] st=[] h=h 
                    exact lw_dim hL A i0 (by omega) S V rfl rfl (fun h' V' s' S' => back _ _ h' (by omega) (by omega) (by omega) V' s' S')
                  · have c2_6 := c2
                    refine ⟨fun c2 => ?_, fun c2 => ?_⟩
                    · show Wp (d + 33) rc rs M_L_law 435 [some (.inr (.inr sc)), some (.inr (.inr 2)), some (.inr (.inr 66)), some (.inl i)] [] h _
                      -- leaf 9: loop 435 [some (.inr (.inr sc)), some (.inr (.inr 2)), some (.inr (.inr 66)), some (.inl i)] st=[] h=h 
                      exact lw_hoist hL A i0 (by omega) S V rfl rfl (fun h' V' s' S' => back _ _ h' (by omega) (by omega) (by omega) V' s' S')
                    · have c2_7 := c2
                      refine ⟨fun c2 => ?_, fun c2 => ?_⟩
                      · show Wp (d + 33) rc rs M_L_law 468 [some (.inr (.inr sc)), some (.inr (.inr 2)), some (.inr (.inr 66)), some (.inl i)] [] h _
                        -- leaf 10: loop 468 [some (.inr (.inr sc)), some (.inr (.inr 2)), some (.inr (.inr 66)), some (.inl i)] st=[] h=h 
                        exact lw_tells hL A i0 (by omega) S V rfl (fun h' V' s' S' => back _ _ h' (by omega) (by omega) (by omega) V' s' S')
                      · have c2_8 := c2
                        refine ⟨fun c2 => ?_, fun c2 => ?_⟩
                        · show Wp (d + 33) rc rs M_L_law 491 [some (.inr (.inr sc)), some (.inr (.inr 2)), some (.inr (.inr 66)), some (.inl i)] [] h _
                          -- leaf 11: loop 491 [some (.inr (.inr sc)), some (.inr (.inr 2)), some (.inr (.inr 66)), some (.inl i)] st=[] h=h 
                          exact lw_book A S V (fun h' V' s' S' => back _ _ h' (by omega) (by omega) (by omega) V' s' S') (by omega) (by omega)
                        · have c2_9 := c2
                          refine ⟨fun c2 => ?_, fun c2 => ?_⟩
                          · show Wp (d + 33) rc rs M_L_law 504 [some (.inr (.inr sc)), some (.inr (.inr 2)), some (.inr (.inr 66)), some (.inl i)] [] h _
                            -- leaf 12: loop 504 [some (.inr (.inr sc)), some (.inr (.inr 2)), some (.inr (.inr 66)), some (.inl i)] st=[] h=h 
                            exact lw_fault hL A i0 (by omega) S V rfl (fun h' V' s' S' => back _ _ h' (by omega) (by omega) (by omega) V' s' S')
                          · have c2_10 := c2
                            refine ⟨fun c2 => ?_, fun c2 => ?_⟩
                            · show Wp (d + 33) rc rs M_L_law 527 [some (.inr (.inr sc)), some (.inr (.inr 2)), some (.inr (.inr 66)), some (.inl i)] [] h _
                              -- leaf 13: loop 527 [some (.inr (.inr sc)), some (.inr (.inr 2)), some (.inr (.inr 66)), some (.inl i)] st=[] h=h 
                              exact lw_senses hL A i0 (by omega) S V  (fun h' V' s' S' => back _ _ h' (by omega) (by omega) (by omega) V' s' S')
                            · have c2_11 := c2
                              refine ⟨fun c2 => ?_, fun c2 => ?_⟩
                              · show Wp (d + 33) rc rs M_L_law 540 [some (.inr (.inr sc)), some (.inr (.inr 2)), some (.inr (.inr 66)), some (.inl i)] [] h _
                                -- leaf 14: loop 540 [some (.inr (.inr sc)), some (.inr (.inr 2)), some (.inr (.inr 66)), some (.inl i)] st=[] h=h 
                                exact lw_letter hL A i0 (by omega) S V rfl rfl rfl (fun h' V' s' S' => back _ _ h' (by omega) (by omega) (by omega) V' s' S')
                              · have c2_12 := c2
                                refine ⟨fun c2 => ?_, fun c2 => ?_⟩
                                · show Wp (d + 33) rc rs M_L_law 599 [some (.inr (.inr sc)), some (.inr (.inr 2)), some (.inr (.inr 66)), some (.inl i)] [] h _
                                  -- leaf 15: loop 599 [some (.inr (.inr sc)), some (.inr (.inr 2)), some (.inr (.inr 66)), some (.inl i)] st=[] h=h 
                                  exact lw_holds hL A i0 (by omega) S V rfl rfl rfl (fun h' V' s' S' => back _ _ h' (by omega) (by omega) (by omega) V' s' S')
                                · have c2_13 := c2
                                  refine ⟨fun c2 => ?_, fun c2 => ?_⟩
                                  · show Wp (d + 33) rc rs M_L_law 642 [some (.inr (.inr sc)), some (.inr (.inr 2)), some (.inr (.inr 66)), some (.inl i)] [] h _
                                    -- leaf 16: loop 642 [some (.inr (.inr sc)), some (.inr (.inr 2)), some (.inr (.inr 66)), some (.inl i)] st=[] h=h 
                                    exact lw_read hL A i0 (by omega) S V rfl rfl rfl (fun h' V' s' S' => back _ _ h' (by omega) (by omega) (by omega) V' s' S')
                                  · have c2_14 := c2
                                    refine ⟨fun c2 => ?_, fun c2 => ?_⟩
                                    · show Wp (d + 33) rc rs M_L_law 685 [some (.inr (.inr sc)), some (.inr (.inr 2)), some (.inr (.inr 66)), some (.inl i)] [] h _
                                      -- leaf 17: loop 685 [some (.inr (.inr sc)), some (.inr (.inr 2)), some (.inr (.inr 66)), some (.inl i)] st=[] h=h 
                                      exact lw_message hL A i0 (by omega) S V  (fun h' V' s' S' => back _ _ h' (by omega) (by omega) (by omega) V' s' S')
                                    · have c2_15 := c2
                                      refine ⟨fun c2 => ?_, fun c2 => ?_⟩
                                      · show Wp (d + 33) rc rs M_L_law 698 [some (.inr (.inr sc)), some (.inr (.inr 2)), some (.inr (.inr 66)), some (.inl i)] [] h _
                                        -- leaf 18: loop 698 [some (.inr (.inr sc)), some (.inr (.inr 2)), some (.inr (.inr 66)), some (.inl i)] st=[] h=h 
                                        exact lw_send hL A i0 (by omega) S V rfl rfl (fun h' V' s' S' => back _ _ h' (by omega) (by omega) (by omega) V' s' S')
                                      · have c2_16 := c2
                                        refine ⟨fun c2 => ?_, fun c2 => ?_⟩
                                        · show Wp (d + 33) rc rs M_L_law 731 [some (.inr (.inr sc)), some (.inr (.inr 2)), some (.inr (.inr 66)), some (.inl i)] [] h _
                                          -- leaf 19: loop 731 [some (.inr (.inr sc)), some (.inr (.inr 2)), some (.inr (.inr 66)), some (.inl i)] st=[] h=h 
                                          exact lw_sent hL A i0 (by omega) S V rfl (fun h' V' s' S' => back _ _ h' (by omega) (by omega) (by omega) V' s' S')
                                        · have c2_17 := c2
                                          refine ⟨fun c2 => ?_, fun c2 => ?_⟩
                                          · show Wp (d + 33) rc rs M_L_law 754 [some (.inr (.inr sc)), some (.inr (.inr 2)), some (.inr (.inr 66)), some (.inl i)] [] h _
                                            -- leaf 20: loop 754 [some (.inr (.inr sc)), some (.inr (.inr 2)), some (.inr (.inr 66)), some (.inl i)] st=[] h=h 
                                            exact lw_may hL A i0 (by omega) S V rfl rfl rfl rfl (fun h' V' s' S' => back _ _ h' (by omega) (by omega) (by omega) V' s' S')
                                          · have c2_18 := c2
                                            refine ⟨fun c2 => ?_, fun c2 => ?_⟩
                                            · show Wp (d + 33) rc rs M_L_law 807 [some (.inr (.inr sc)), some (.inr (.inr 2)), some (.inr (.inr 66)), some (.inl i)] [] h _
                                              -- leaf 21: loop 807 [some (.inr (.inr sc)), some (.inr (.inr 2)), some (.inr (.inr 66)), some (.inl i)] st=[] h=h 
                                              exact lw_line hL A i0 (by omega) S V rfl rfl (fun h' V' s' S' => back _ _ h' (by omega) (by omega) (by omega) V' s' S')
                                            · have c2_19 := c2
                                              refine ⟨fun c2 => ?_, fun c2 => ?_⟩
                                              · show Wp (d + 33) rc rs M_L_law 840 [some (.inr (.inr sc)), some (.inr (.inr 2)), some (.inr (.inr 66)), some (.inl i)] [] h _
                                                -- leaf 22: loop 840 [some (.inr (.inr sc)), some (.inr (.inr 2)), some (.inr (.inr 66)), some (.inl i)] st=[] h=h 
                                                exact lw_along hL A i0 (by omega) S V rfl rfl (fun h' V' s' S' => back _ _ h' (by omega) (by omega) (by omega) V' s' S')
                                              · have c2_20 := c2
                                                refine ⟨fun c2 => ?_, fun c2 => ?_⟩
                                                · show Wp (d + 33) rc rs M_L_law 873 [some (.inr (.inr sc)), some (.inr (.inr 2)), some (.inr (.inr 66)), some (.inl i)] [] h _
                                                  -- leaf 23: loop 873 [some (.inr (.inr sc)), some (.inr (.inr 2)), some (.inr (.inr 66)), some (.inl i)] st=[] h=h 
                                                  exact lw_heard hL A i0 (by omega) S V rfl (fun h' V' s' S' => back _ _ h' (by omega) (by omega) (by omega) V' s' S')
                                                · have c2_21 := c2
                                                  refine ⟨fun c2 => ?_, fun c2 => ?_⟩
                                                  · show Wp (d + 33) rc rs M_L_law 896 [some (.inr (.inr sc)), some (.inr (.inr 2)), some (.inr (.inr 66)), some (.inl i)] [] h _
                                                    -- leaf 24: loop 896 [some (.inr (.inr sc)), some (.inr (.inr 2)), some (.inr (.inr 66)), some (.inl i)] st=[] h=h 
                                                    exact lw_flown hL A i0 (by omega) S V rfl rfl rfl (fun h' V' s' S' => back _ _ h' (by omega) (by omega) (by omega) V' s' S')
                                                  · have c2_22 := c2
                                                    refine ⟨fun c2 => ?_, fun c2 => ?_⟩
                                                    · show Wp (d + 33) rc rs M_L_law 939 [some (.inr (.inr sc)), some (.inr (.inr 2)), some (.inr (.inr 66)), some (.inl i)] [] h _
                                                      -- leaf 25: loop 939 [some (.inr (.inr sc)), some (.inr (.inr 2)), some (.inr (.inr 66)), some (.inl i)] st=[] h=h 
                                                      exact lw_annul hL A i0 (by omega) S V rfl (fun h' V' s' S' => back _ _ h' (by omega) (by omega) (by omega) V' s' S')
                                                    · have c2_23 := c2
                                                      refine ⟨fun c2 => ?_, fun c2 => ?_⟩
                                                      · show Wp (d + 33) rc rs M_L_law 962 [some (.inr (.inr sc)), some (.inr (.inr 2)), some (.inr (.inr 66)), some (.inl i)] [] h _
                                                        -- leaf 26: loop 962 [some (.inr (.inr sc)), some (.inr (.inr 2)), some (.inr (.inr 66)), some (.inl i)] st=[] h=h 
                                                        exact lw_as hL A i0 (by omega) S V rfl (fun h' V' s' S' => back _ _ h' (by omega) (by omega) (by omega) V' s' S')
                                                      · have c2_24 := c2
                                                        refine ⟨fun c2 => ?_, fun c2 => ?_⟩
                                                        · show Wp (d + 33) rc rs M_L_law 985 [some (.inr (.inr sc)), some (.inr (.inr 2)), some (.inr (.inr 66)), some (.inl i)] [] h _
                                                          -- leaf 27: loop 985 [some (.inr (.inr sc)), some (.inr (.inr 2)), some (.inr (.inr 66)), some (.inl i)] st=[] h=h 
                                                          exact lw_taken hL A i0 (by omega) S V rfl rfl (fun h' V' s' S' => back _ _ h' (by omega) (by omega) (by omega) V' s' S')
                                                        · have c2_25 := c2
                                                          refine ⟨fun c2 => ?_, fun c2 => ?_⟩
                                                          · show Wp (d + 33) rc rs M_L_law 1018 [some (.inr (.inr sc)), some (.inr (.inr 2)), some (.inr (.inr 66)), some (.inl i)] [] h _
                                                            -- leaf 28: loop 1018 [some (.inr (.inr sc)), some (.inr (.inr 2)), some (.inr (.inr 66)), some (.inl i)] st=[] h=h 
                                                            exact lw_change hL A i0 (by omega) S V rfl (fun h' V' s' S' => back _ _ h' (by omega) (by omega) (by omega) V' s' S')
                                                          · have c2_26 := c2
                                                            refine ⟨fun c2 => ?_, fun c2 => ?_⟩
                                                            · show Wp (d + 33) rc rs M_L_law 1041 [some (.inr (.inr sc)), some (.inr (.inr 2)), some (.inr (.inr 66)), some (.inl i)] [] h _
                                                              -- leaf 29: loop 1041 [some (.inr (.inr sc)), some (.inr (.inr 2)), some (.inr (.inr 66)), some (.inl i)] st=[] h=h 
                                                              exact lw_changed hL A i0 (by omega) S V rfl (fun h' V' s' S' => back _ _ h' (by omega) (by omega) (by omega) V' s' S')
                                                            · have c2_27 := c2
                                                              refine ⟨fun c2 => ?_, fun c2 => ?_⟩
                                                              · show Wp (d + 33) rc rs M_L_law 1064 [some (.inr (.inr sc)), some (.inr (.inr 2)), some (.inr (.inr 66)), some (.inl i)] [] h _
                                                                -- leaf 30: loop 1064 [some (.inr (.inr sc)), some (.inr (.inr 2)), some (.inr (.inr 66)), some (.inl i)] st=[] h=h 
                                                                exact lw_all hL A i0 (by omega) S V rfl (fun h' V' s' S' => back _ _ h' (by omega) (by omega) (by omega) V' s' S')
                                                              · have c2_28 := c2
                                                                show Wp (d + 33) rc rs M_L_law 1087 [some (.inr (.inr sc)), some (.inr (.inr 2)), some (.inr (.inr 66)), some (.inl i)] [] h _
                                                                -- leaf 31: loop 1087 [some (.inr (.inr sc)), some (.inr (.inr 2)), some (.inr (.inr 66)), some (.inl i)] st=[] h=h 
                                                                exact back _ _ h (by omega) (by omega) (by omega) V (Sc.rf h) S

