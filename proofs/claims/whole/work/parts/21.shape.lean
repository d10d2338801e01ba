/-! SHAPE: tags, lengths, final references of all that class and model make at the start (by wip/whole/gen/shape.py) -/
def TGl : List Int := [(-1), (-1), 11, 9, 102, 8, 100, 100, 100, 100, 100, 2, 100, 100, 100, 100, 10, 101, 0, 105, 100, 100, 100, 100, 5, 101, 101, 103, 100, 100, 3, 100, 7, 100, 100, 100, 100, 100, 6, 106, 100, 100, 100, 100, 100, 100, 100, 100, 100, 100, 100, 100, 100, 103, 100, 100, 100, 103, 100, 4, 101, 100, 100, 100, 100, 100, 12, 100, 104, 104, 104, 104, 104, 104, 104, 104, 104, 104, 104, 100, 101, 100, 100, 100, 100, 100, 100, 100, 100, 103, 100, 100, 100, 100, 100, 100, 100, 100, 100, 101, 103, 100, 100, 100, 101, 100, 100, 101, 101, 100, 100, 100, 100, 100, 100, 100, 100, 100, 100, 100, 100, 100, 100, 103, 100, 101, 101, 100]
def LNl : List Int := [0, 0, 13, 2, 700, 5, 10, 10, 10, 676, 1000, 14, 40, 40, 40, 700, 5, 701, 7, 201, 201, 201, 201, 201, 12, 20, 20, 5, 100, 16, 4, 64, 10, 12, 13, 13, 13, 13, 16, 9, 240, 240, 240, 240, 240, 240, 240, 240, 240, 10, 10, 10, 10, 10, 10, 10, 10, 10, 240, 7, 2400, 4, 4, 12, 12, 12, 89, 700, 5, 2, 3, 2, 3, 3, 3, 4, 4, 6, 4, 201, 8040, 8040, 8040, 8040, 140700, 800, 10, 10, 676, 1000, 1000, 9, 4, 4, 201, 201, 201, 201, 201, 800, 40, 40, 100, 400, 4, 4, 4, 12, 12, 12, 13, 13, 13, 13, 12, 6400, 10, 10, 10, 10, 10, 10, 10, 10, 640, 4, 6400, 4]
def TG (a : Int) : Int := TGl.getD a.toNat (-1)
def LN (a : Int) : Int := LNl.getD a.toNat 0
def FINl : List (Int × Int × Int) := [(2, 0, 3), (2, 1, 5), (2, 2, 11), (2, 3, 18), (2, 4, 24), (2, 5, 32), (2, 6, 38), (2, 7, 59), (2, 8, 63), (2, 9, 64), (2, 11, 65), (3, 0, 4), (5, 0, 6), (5, 1, 7), (5, 2, 8), (5, 3, 9), (5, 4, 10), (11, 0, 16), (11, 9, 12), (11, 10, 13), (11, 11, 14), (11, 12, 15), (16, 0, 3), (16, 1, 17), (18, 0, 19), (18, 1, 20), (18, 2, 21), (18, 3, 22), (18, 4, 23), (24, 0, 5), (24, 1, 30), (24, 5, 25), (24, 6, 26), (24, 7, 27), (24, 8, 28), (24, 11, 29), (30, 0, 31), (32, 0, 5), (32, 1, 24), (32, 2, 33), (32, 6, 34), (32, 7, 35), (32, 8, 36), (32, 9, 37), (38, 0, 5), (38, 1, 24), (38, 2, 32), (38, 4, 39), (38, 5, 49), (38, 6, 50), (38, 7, 51), (38, 8, 52), (38, 9, 53), (38, 10, 54), (38, 11, 55), (38, 12, 56), (38, 13, 57), (38, 14, 58), (59, 0, 18), (59, 1, 24), (59, 2, 60), (59, 4, 61), (59, 5, 62), (66, 0, 67), (66, 9, 68), (66, 10, 69), (66, 11, 70), (66, 12, 71), (66, 13, 72), (66, 14, 73), (66, 15, 74), (66, 16, 75), (66, 17, 76), (66, 18, 77), (66, 19, 78), (66, 20, 79), (66, 21, 80), (66, 22, 81), (66, 23, 82), (66, 24, 83), (66, 25, 84), (66, 27, 85), (66, 31, 86), (66, 32, 87), (66, 33, 88), (66, 34, 89), (66, 35, 90), (66, 36, 91), (66, 37, 92), (66, 39, 93), (66, 41, 94), (66, 42, 95), (66, 43, 96), (66, 44, 97), (66, 45, 98), (66, 47, 99), (66, 50, 100), (66, 51, 101), (66, 53, 102), (66, 54, 103), (66, 55, 104), (66, 57, 105), (66, 58, 106), (66, 60, 107), (66, 61, 108), (66, 63, 109), (66, 64, 110), (66, 65, 111), (66, 66, 112), (66, 67, 113), (66, 69, 114), (66, 72, 115), (66, 73, 116), (66, 74, 117), (66, 75, 118), (66, 76, 119), (66, 77, 120), (66, 78, 121), (66, 79, 122), (66, 80, 123), (66, 82, 124), (66, 84, 125), (66, 86, 126), (66, 88, 127)]
def Shape (h : PH) : Prop := 128 ≤ nx h ∧ (∀ a, 2 ≤ a → a < 128 → tg h a = TG a ∧ ln h a = LN a) ∧ (∀ e ∈ FINl, gv h e.1 e.2.1 = e.2.2) ∧ ∀ s, 0 ≤ s → s < 9 → gv h 39 s = 40 + s
theorem Shape.nx {h : PH} (S : Shape h) : 128 ≤ nx h := S.1
theorem Shape.sv0 {h : PH} {a i : Int} (S : Shape h) (v : Int) (hq : a ≠ 39) (hf : ∀ e ∈ FINl, ¬ (e.1 = a ∧ e.2.1 = i)) : Shape (sv h a i v) := by
  refine ⟨S.1, S.2.1, fun e he => ?_, fun s h0 h1 => ?_⟩
  · rw [gv_sv, if_neg (hf e he)]; exact S.2.2.1 e he
  · rw [gv_sv, if_neg (fun z => hq z.1.symm)]; exact S.2.2.2 s h0 h1
def finA (a : Int) : Bool := decide (a ≠ 39) && FINl.all (fun e => decide (e.1 ≠ a))
def finF (a k : Int) : Bool := decide (a ≠ 39) && FINl.all (fun e => decide (¬ (e.1 = a ∧ e.2.1 = k)))
theorem Shape.svA {h : PH} {a : Int} (S : Shape h) (hf : finA a = true) (i v : Int) : Shape (sv h a i v) := by
  unfold finA at hf
  rw [Bool.and_eq_true, decide_eq_true_eq] at hf
  exact S.sv0 v hf.1 (fun e he z => (of_decide_eq_true (List.all_eq_true.mp hf.2 e he)) z.1)
theorem Shape.svF {h : PH} {a k : Int} (S : Shape h) (hf : finF a k = true) (v : Int) : Shape (sv h a k v) := by
  unfold finF at hf
  rw [Bool.and_eq_true, decide_eq_true_eq] at hf
  exact S.sv0 v hf.1 (fun e he z => (of_decide_eq_true (List.all_eq_true.mp hf.2 e he)) z)
theorem FIN_lt : ∀ e ∈ FINl, e.1 < 128 := by decide +kernel
theorem Shape.svB {h : PH} {a : Int} (S : Shape h) (ha : 128 ≤ a) (i v : Int) : Shape (sv h a i v) := S.sv0 v (by omega) (fun e he z => by have := FIN_lt e he; omega)
theorem tg_2 {h : PH} (S : Shape h) : tg h 2 = 11 := (S.2.1 2 (by decide) (by decide)).1
theorem fi_2_0 {h : PH} (S : Shape h) : gv h 2 0 = 3 := S.2.2.1 (2, 0, 3) (List.mem_of_getElem? (i := 0) rfl)
theorem fi_2_1 {h : PH} (S : Shape h) : gv h 2 1 = 5 := S.2.2.1 (2, 1, 5) (List.mem_of_getElem? (i := 1) rfl)
theorem fi_2_2 {h : PH} (S : Shape h) : gv h 2 2 = 11 := S.2.2.1 (2, 2, 11) (List.mem_of_getElem? (i := 2) rfl)
theorem fi_2_3 {h : PH} (S : Shape h) : gv h 2 3 = 18 := S.2.2.1 (2, 3, 18) (List.mem_of_getElem? (i := 3) rfl)
theorem fi_2_4 {h : PH} (S : Shape h) : gv h 2 4 = 24 := S.2.2.1 (2, 4, 24) (List.mem_of_getElem? (i := 4) rfl)
theorem fi_2_5 {h : PH} (S : Shape h) : gv h 2 5 = 32 := S.2.2.1 (2, 5, 32) (List.mem_of_getElem? (i := 5) rfl)
theorem fi_2_6 {h : PH} (S : Shape h) : gv h 2 6 = 38 := S.2.2.1 (2, 6, 38) (List.mem_of_getElem? (i := 6) rfl)
theorem fi_2_7 {h : PH} (S : Shape h) : gv h 2 7 = 59 := S.2.2.1 (2, 7, 59) (List.mem_of_getElem? (i := 7) rfl)
theorem fi_2_8 {h : PH} (S : Shape h) : gv h 2 8 = 63 := S.2.2.1 (2, 8, 63) (List.mem_of_getElem? (i := 8) rfl)
theorem fi_2_9 {h : PH} (S : Shape h) : gv h 2 9 = 64 := S.2.2.1 (2, 9, 64) (List.mem_of_getElem? (i := 9) rfl)
theorem ff_2_10 : finF 2 10 = true := by decide +kernel
theorem fi_2_11 {h : PH} (S : Shape h) : gv h 2 11 = 65 := S.2.2.1 (2, 11, 65) (List.mem_of_getElem? (i := 10) rfl)
theorem ff_2_12 : finF 2 12 = true := by decide +kernel
theorem tg_3 {h : PH} (S : Shape h) : tg h 3 = 9 := (S.2.1 3 (by decide) (by decide)).1
theorem fi_3_0 {h : PH} (S : Shape h) : gv h 3 0 = 4 := S.2.2.1 (3, 0, 4) (List.mem_of_getElem? (i := 11) rfl)
theorem ff_3_1 : finF 3 1 = true := by decide +kernel
theorem tg_4 {h : PH} (S : Shape h) : tg h 4 = 102 := (S.2.1 4 (by decide) (by decide)).1
theorem ln_4 {h : PH} (S : Shape h) : ln h 4 = 700 := (S.2.1 4 (by decide) (by decide)).2
theorem fa_4 : finA 4 = true := by decide +kernel
theorem tg_5 {h : PH} (S : Shape h) : tg h 5 = 8 := (S.2.1 5 (by decide) (by decide)).1
theorem fi_5_0 {h : PH} (S : Shape h) : gv h 5 0 = 6 := S.2.2.1 (5, 0, 6) (List.mem_of_getElem? (i := 12) rfl)
theorem fi_5_1 {h : PH} (S : Shape h) : gv h 5 1 = 7 := S.2.2.1 (5, 1, 7) (List.mem_of_getElem? (i := 13) rfl)
theorem fi_5_2 {h : PH} (S : Shape h) : gv h 5 2 = 8 := S.2.2.1 (5, 2, 8) (List.mem_of_getElem? (i := 14) rfl)
theorem fi_5_3 {h : PH} (S : Shape h) : gv h 5 3 = 9 := S.2.2.1 (5, 3, 9) (List.mem_of_getElem? (i := 15) rfl)
theorem fi_5_4 {h : PH} (S : Shape h) : gv h 5 4 = 10 := S.2.2.1 (5, 4, 10) (List.mem_of_getElem? (i := 16) rfl)
theorem tg_6 {h : PH} (S : Shape h) : tg h 6 = 100 := (S.2.1 6 (by decide) (by decide)).1
theorem ln_6 {h : PH} (S : Shape h) : ln h 6 = 10 := (S.2.1 6 (by decide) (by decide)).2
theorem fa_6 : finA 6 = true := by decide +kernel
theorem tg_7 {h : PH} (S : Shape h) : tg h 7 = 100 := (S.2.1 7 (by decide) (by decide)).1
theorem ln_7 {h : PH} (S : Shape h) : ln h 7 = 10 := (S.2.1 7 (by decide) (by decide)).2
theorem fa_7 : finA 7 = true := by decide +kernel
theorem tg_8 {h : PH} (S : Shape h) : tg h 8 = 100 := (S.2.1 8 (by decide) (by decide)).1
theorem ln_8 {h : PH} (S : Shape h) : ln h 8 = 10 := (S.2.1 8 (by decide) (by decide)).2
theorem fa_8 : finA 8 = true := by decide +kernel
theorem tg_9 {h : PH} (S : Shape h) : tg h 9 = 100 := (S.2.1 9 (by decide) (by decide)).1
theorem ln_9 {h : PH} (S : Shape h) : ln h 9 = 676 := (S.2.1 9 (by decide) (by decide)).2
theorem fa_9 : finA 9 = true := by decide +kernel
theorem tg_10 {h : PH} (S : Shape h) : tg h 10 = 100 := (S.2.1 10 (by decide) (by decide)).1
theorem ln_10 {h : PH} (S : Shape h) : ln h 10 = 1000 := (S.2.1 10 (by decide) (by decide)).2
theorem fa_10 : finA 10 = true := by decide +kernel
theorem tg_11 {h : PH} (S : Shape h) : tg h 11 = 2 := (S.2.1 11 (by decide) (by decide)).1
theorem fi_11_0 {h : PH} (S : Shape h) : gv h 11 0 = 16 := S.2.2.1 (11, 0, 16) (List.mem_of_getElem? (i := 17) rfl)
theorem ff_11_1 : finF 11 1 = true := by decide +kernel
theorem ff_11_2 : finF 11 2 = true := by decide +kernel
theorem ff_11_3 : finF 11 3 = true := by decide +kernel
theorem ff_11_4 : finF 11 4 = true := by decide +kernel
theorem ff_11_5 : finF 11 5 = true := by decide +kernel
theorem ff_11_6 : finF 11 6 = true := by decide +kernel
theorem ff_11_7 : finF 11 7 = true := by decide +kernel
theorem ff_11_8 : finF 11 8 = true := by decide +kernel
theorem fi_11_9 {h : PH} (S : Shape h) : gv h 11 9 = 12 := S.2.2.1 (11, 9, 12) (List.mem_of_getElem? (i := 18) rfl)
theorem fi_11_10 {h : PH} (S : Shape h) : gv h 11 10 = 13 := S.2.2.1 (11, 10, 13) (List.mem_of_getElem? (i := 19) rfl)
theorem fi_11_11 {h : PH} (S : Shape h) : gv h 11 11 = 14 := S.2.2.1 (11, 11, 14) (List.mem_of_getElem? (i := 20) rfl)
theorem fi_11_12 {h : PH} (S : Shape h) : gv h 11 12 = 15 := S.2.2.1 (11, 12, 15) (List.mem_of_getElem? (i := 21) rfl)
theorem ff_11_13 : finF 11 13 = true := by decide +kernel
theorem tg_12 {h : PH} (S : Shape h) : tg h 12 = 100 := (S.2.1 12 (by decide) (by decide)).1
theorem ln_12 {h : PH} (S : Shape h) : ln h 12 = 40 := (S.2.1 12 (by decide) (by decide)).2
theorem fa_12 : finA 12 = true := by decide +kernel
theorem tg_13 {h : PH} (S : Shape h) : tg h 13 = 100 := (S.2.1 13 (by decide) (by decide)).1
theorem ln_13 {h : PH} (S : Shape h) : ln h 13 = 40 := (S.2.1 13 (by decide) (by decide)).2
theorem fa_13 : finA 13 = true := by decide +kernel
theorem tg_14 {h : PH} (S : Shape h) : tg h 14 = 100 := (S.2.1 14 (by decide) (by decide)).1
theorem ln_14 {h : PH} (S : Shape h) : ln h 14 = 40 := (S.2.1 14 (by decide) (by decide)).2
theorem fa_14 : finA 14 = true := by decide +kernel
theorem tg_15 {h : PH} (S : Shape h) : tg h 15 = 100 := (S.2.1 15 (by decide) (by decide)).1
theorem ln_15 {h : PH} (S : Shape h) : ln h 15 = 700 := (S.2.1 15 (by decide) (by decide)).2
theorem fa_15 : finA 15 = true := by decide +kernel
theorem tg_16 {h : PH} (S : Shape h) : tg h 16 = 10 := (S.2.1 16 (by decide) (by decide)).1
theorem fi_16_0 {h : PH} (S : Shape h) : gv h 16 0 = 3 := S.2.2.1 (16, 0, 3) (List.mem_of_getElem? (i := 22) rfl)
theorem fi_16_1 {h : PH} (S : Shape h) : gv h 16 1 = 17 := S.2.2.1 (16, 1, 17) (List.mem_of_getElem? (i := 23) rfl)
theorem ff_16_2 : finF 16 2 = true := by decide +kernel
theorem ff_16_3 : finF 16 3 = true := by decide +kernel
theorem ff_16_4 : finF 16 4 = true := by decide +kernel
theorem tg_17 {h : PH} (S : Shape h) : tg h 17 = 101 := (S.2.1 17 (by decide) (by decide)).1
theorem ln_17 {h : PH} (S : Shape h) : ln h 17 = 701 := (S.2.1 17 (by decide) (by decide)).2
theorem fa_17 : finA 17 = true := by decide +kernel
theorem tg_18 {h : PH} (S : Shape h) : tg h 18 = 0 := (S.2.1 18 (by decide) (by decide)).1
theorem fi_18_0 {h : PH} (S : Shape h) : gv h 18 0 = 19 := S.2.2.1 (18, 0, 19) (List.mem_of_getElem? (i := 24) rfl)
theorem fi_18_1 {h : PH} (S : Shape h) : gv h 18 1 = 20 := S.2.2.1 (18, 1, 20) (List.mem_of_getElem? (i := 25) rfl)
theorem fi_18_2 {h : PH} (S : Shape h) : gv h 18 2 = 21 := S.2.2.1 (18, 2, 21) (List.mem_of_getElem? (i := 26) rfl)
theorem fi_18_3 {h : PH} (S : Shape h) : gv h 18 3 = 22 := S.2.2.1 (18, 3, 22) (List.mem_of_getElem? (i := 27) rfl)
theorem fi_18_4 {h : PH} (S : Shape h) : gv h 18 4 = 23 := S.2.2.1 (18, 4, 23) (List.mem_of_getElem? (i := 28) rfl)
theorem ff_18_5 : finF 18 5 = true := by decide +kernel
theorem ff_18_6 : finF 18 6 = true := by decide +kernel
theorem tg_19 {h : PH} (S : Shape h) : tg h 19 = 105 := (S.2.1 19 (by decide) (by decide)).1
theorem ln_19 {h : PH} (S : Shape h) : ln h 19 = 201 := (S.2.1 19 (by decide) (by decide)).2
theorem fa_19 : finA 19 = true := by decide +kernel
theorem tg_20 {h : PH} (S : Shape h) : tg h 20 = 100 := (S.2.1 20 (by decide) (by decide)).1
theorem ln_20 {h : PH} (S : Shape h) : ln h 20 = 201 := (S.2.1 20 (by decide) (by decide)).2
theorem fa_20 : finA 20 = true := by decide +kernel
theorem tg_21 {h : PH} (S : Shape h) : tg h 21 = 100 := (S.2.1 21 (by decide) (by decide)).1
theorem ln_21 {h : PH} (S : Shape h) : ln h 21 = 201 := (S.2.1 21 (by decide) (by decide)).2
theorem fa_21 : finA 21 = true := by decide +kernel
theorem tg_22 {h : PH} (S : Shape h) : tg h 22 = 100 := (S.2.1 22 (by decide) (by decide)).1
theorem ln_22 {h : PH} (S : Shape h) : ln h 22 = 201 := (S.2.1 22 (by decide) (by decide)).2
theorem fa_22 : finA 22 = true := by decide +kernel
theorem tg_23 {h : PH} (S : Shape h) : tg h 23 = 100 := (S.2.1 23 (by decide) (by decide)).1
theorem ln_23 {h : PH} (S : Shape h) : ln h 23 = 201 := (S.2.1 23 (by decide) (by decide)).2
theorem fa_23 : finA 23 = true := by decide +kernel
theorem tg_24 {h : PH} (S : Shape h) : tg h 24 = 5 := (S.2.1 24 (by decide) (by decide)).1
theorem fi_24_0 {h : PH} (S : Shape h) : gv h 24 0 = 5 := S.2.2.1 (24, 0, 5) (List.mem_of_getElem? (i := 29) rfl)
theorem fi_24_1 {h : PH} (S : Shape h) : gv h 24 1 = 30 := S.2.2.1 (24, 1, 30) (List.mem_of_getElem? (i := 30) rfl)
theorem ff_24_2 : finF 24 2 = true := by decide +kernel
theorem ff_24_3 : finF 24 3 = true := by decide +kernel
theorem ff_24_4 : finF 24 4 = true := by decide +kernel
theorem fi_24_5 {h : PH} (S : Shape h) : gv h 24 5 = 25 := S.2.2.1 (24, 5, 25) (List.mem_of_getElem? (i := 31) rfl)
theorem fi_24_6 {h : PH} (S : Shape h) : gv h 24 6 = 26 := S.2.2.1 (24, 6, 26) (List.mem_of_getElem? (i := 32) rfl)
theorem fi_24_7 {h : PH} (S : Shape h) : gv h 24 7 = 27 := S.2.2.1 (24, 7, 27) (List.mem_of_getElem? (i := 33) rfl)
theorem fi_24_8 {h : PH} (S : Shape h) : gv h 24 8 = 28 := S.2.2.1 (24, 8, 28) (List.mem_of_getElem? (i := 34) rfl)
theorem ff_24_9 : finF 24 9 = true := by decide +kernel
theorem ff_24_10 : finF 24 10 = true := by decide +kernel
theorem fi_24_11 {h : PH} (S : Shape h) : gv h 24 11 = 29 := S.2.2.1 (24, 11, 29) (List.mem_of_getElem? (i := 35) rfl)
theorem tg_25 {h : PH} (S : Shape h) : tg h 25 = 101 := (S.2.1 25 (by decide) (by decide)).1
theorem ln_25 {h : PH} (S : Shape h) : ln h 25 = 20 := (S.2.1 25 (by decide) (by decide)).2
theorem fa_25 : finA 25 = true := by decide +kernel
theorem tg_26 {h : PH} (S : Shape h) : tg h 26 = 101 := (S.2.1 26 (by decide) (by decide)).1
theorem ln_26 {h : PH} (S : Shape h) : ln h 26 = 20 := (S.2.1 26 (by decide) (by decide)).2
theorem fa_26 : finA 26 = true := by decide +kernel
theorem tg_27 {h : PH} (S : Shape h) : tg h 27 = 103 := (S.2.1 27 (by decide) (by decide)).1
theorem ln_27 {h : PH} (S : Shape h) : ln h 27 = 5 := (S.2.1 27 (by decide) (by decide)).2
theorem fa_27 : finA 27 = true := by decide +kernel
theorem tg_28 {h : PH} (S : Shape h) : tg h 28 = 100 := (S.2.1 28 (by decide) (by decide)).1
theorem ln_28 {h : PH} (S : Shape h) : ln h 28 = 100 := (S.2.1 28 (by decide) (by decide)).2
theorem fa_28 : finA 28 = true := by decide +kernel
theorem tg_29 {h : PH} (S : Shape h) : tg h 29 = 100 := (S.2.1 29 (by decide) (by decide)).1
theorem ln_29 {h : PH} (S : Shape h) : ln h 29 = 16 := (S.2.1 29 (by decide) (by decide)).2
theorem fa_29 : finA 29 = true := by decide +kernel
theorem tg_30 {h : PH} (S : Shape h) : tg h 30 = 3 := (S.2.1 30 (by decide) (by decide)).1
theorem fi_30_0 {h : PH} (S : Shape h) : gv h 30 0 = 31 := S.2.2.1 (30, 0, 31) (List.mem_of_getElem? (i := 36) rfl)
theorem ff_30_1 : finF 30 1 = true := by decide +kernel
theorem ff_30_2 : finF 30 2 = true := by decide +kernel
theorem ff_30_3 : finF 30 3 = true := by decide +kernel
theorem tg_31 {h : PH} (S : Shape h) : tg h 31 = 100 := (S.2.1 31 (by decide) (by decide)).1
theorem ln_31 {h : PH} (S : Shape h) : ln h 31 = 64 := (S.2.1 31 (by decide) (by decide)).2
theorem fa_31 : finA 31 = true := by decide +kernel
theorem tg_32 {h : PH} (S : Shape h) : tg h 32 = 7 := (S.2.1 32 (by decide) (by decide)).1
theorem fi_32_0 {h : PH} (S : Shape h) : gv h 32 0 = 5 := S.2.2.1 (32, 0, 5) (List.mem_of_getElem? (i := 37) rfl)
theorem fi_32_1 {h : PH} (S : Shape h) : gv h 32 1 = 24 := S.2.2.1 (32, 1, 24) (List.mem_of_getElem? (i := 38) rfl)
theorem fi_32_2 {h : PH} (S : Shape h) : gv h 32 2 = 33 := S.2.2.1 (32, 2, 33) (List.mem_of_getElem? (i := 39) rfl)
theorem ff_32_3 : finF 32 3 = true := by decide +kernel
theorem ff_32_4 : finF 32 4 = true := by decide +kernel
theorem ff_32_5 : finF 32 5 = true := by decide +kernel
theorem fi_32_6 {h : PH} (S : Shape h) : gv h 32 6 = 34 := S.2.2.1 (32, 6, 34) (List.mem_of_getElem? (i := 40) rfl)
theorem fi_32_7 {h : PH} (S : Shape h) : gv h 32 7 = 35 := S.2.2.1 (32, 7, 35) (List.mem_of_getElem? (i := 41) rfl)
theorem fi_32_8 {h : PH} (S : Shape h) : gv h 32 8 = 36 := S.2.2.1 (32, 8, 36) (List.mem_of_getElem? (i := 42) rfl)
theorem fi_32_9 {h : PH} (S : Shape h) : gv h 32 9 = 37 := S.2.2.1 (32, 9, 37) (List.mem_of_getElem? (i := 43) rfl)
theorem tg_33 {h : PH} (S : Shape h) : tg h 33 = 100 := (S.2.1 33 (by decide) (by decide)).1
theorem ln_33 {h : PH} (S : Shape h) : ln h 33 = 12 := (S.2.1 33 (by decide) (by decide)).2
theorem fa_33 : finA 33 = true := by decide +kernel
theorem tg_34 {h : PH} (S : Shape h) : tg h 34 = 100 := (S.2.1 34 (by decide) (by decide)).1
theorem ln_34 {h : PH} (S : Shape h) : ln h 34 = 13 := (S.2.1 34 (by decide) (by decide)).2
theorem fa_34 : finA 34 = true := by decide +kernel
theorem tg_35 {h : PH} (S : Shape h) : tg h 35 = 100 := (S.2.1 35 (by decide) (by decide)).1
theorem ln_35 {h : PH} (S : Shape h) : ln h 35 = 13 := (S.2.1 35 (by decide) (by decide)).2
theorem fa_35 : finA 35 = true := by decide +kernel
theorem tg_36 {h : PH} (S : Shape h) : tg h 36 = 100 := (S.2.1 36 (by decide) (by decide)).1
theorem ln_36 {h : PH} (S : Shape h) : ln h 36 = 13 := (S.2.1 36 (by decide) (by decide)).2
theorem fa_36 : finA 36 = true := by decide +kernel
theorem tg_37 {h : PH} (S : Shape h) : tg h 37 = 100 := (S.2.1 37 (by decide) (by decide)).1
theorem ln_37 {h : PH} (S : Shape h) : ln h 37 = 13 := (S.2.1 37 (by decide) (by decide)).2
theorem fa_37 : finA 37 = true := by decide +kernel
theorem tg_38 {h : PH} (S : Shape h) : tg h 38 = 6 := (S.2.1 38 (by decide) (by decide)).1
theorem fi_38_0 {h : PH} (S : Shape h) : gv h 38 0 = 5 := S.2.2.1 (38, 0, 5) (List.mem_of_getElem? (i := 44) rfl)
theorem fi_38_1 {h : PH} (S : Shape h) : gv h 38 1 = 24 := S.2.2.1 (38, 1, 24) (List.mem_of_getElem? (i := 45) rfl)
theorem fi_38_2 {h : PH} (S : Shape h) : gv h 38 2 = 32 := S.2.2.1 (38, 2, 32) (List.mem_of_getElem? (i := 46) rfl)
theorem ff_38_3 : finF 38 3 = true := by decide +kernel
theorem fi_38_4 {h : PH} (S : Shape h) : gv h 38 4 = 39 := S.2.2.1 (38, 4, 39) (List.mem_of_getElem? (i := 47) rfl)
theorem fi_38_5 {h : PH} (S : Shape h) : gv h 38 5 = 49 := S.2.2.1 (38, 5, 49) (List.mem_of_getElem? (i := 48) rfl)
theorem fi_38_6 {h : PH} (S : Shape h) : gv h 38 6 = 50 := S.2.2.1 (38, 6, 50) (List.mem_of_getElem? (i := 49) rfl)
theorem fi_38_7 {h : PH} (S : Shape h) : gv h 38 7 = 51 := S.2.2.1 (38, 7, 51) (List.mem_of_getElem? (i := 50) rfl)
theorem fi_38_8 {h : PH} (S : Shape h) : gv h 38 8 = 52 := S.2.2.1 (38, 8, 52) (List.mem_of_getElem? (i := 51) rfl)
theorem fi_38_9 {h : PH} (S : Shape h) : gv h 38 9 = 53 := S.2.2.1 (38, 9, 53) (List.mem_of_getElem? (i := 52) rfl)
theorem fi_38_10 {h : PH} (S : Shape h) : gv h 38 10 = 54 := S.2.2.1 (38, 10, 54) (List.mem_of_getElem? (i := 53) rfl)
theorem fi_38_11 {h : PH} (S : Shape h) : gv h 38 11 = 55 := S.2.2.1 (38, 11, 55) (List.mem_of_getElem? (i := 54) rfl)
theorem fi_38_12 {h : PH} (S : Shape h) : gv h 38 12 = 56 := S.2.2.1 (38, 12, 56) (List.mem_of_getElem? (i := 55) rfl)
theorem fi_38_13 {h : PH} (S : Shape h) : gv h 38 13 = 57 := S.2.2.1 (38, 13, 57) (List.mem_of_getElem? (i := 56) rfl)
theorem fi_38_14 {h : PH} (S : Shape h) : gv h 38 14 = 58 := S.2.2.1 (38, 14, 58) (List.mem_of_getElem? (i := 57) rfl)
theorem ff_38_15 : finF 38 15 = true := by decide +kernel
theorem tg_39 {h : PH} (S : Shape h) : tg h 39 = 106 := (S.2.1 39 (by decide) (by decide)).1
theorem ln_39 {h : PH} (S : Shape h) : ln h 39 = 9 := (S.2.1 39 (by decide) (by decide)).2
theorem tg_40 {h : PH} (S : Shape h) : tg h 40 = 100 := (S.2.1 40 (by decide) (by decide)).1
theorem ln_40 {h : PH} (S : Shape h) : ln h 40 = 240 := (S.2.1 40 (by decide) (by decide)).2
theorem fa_40 : finA 40 = true := by decide +kernel
theorem tg_41 {h : PH} (S : Shape h) : tg h 41 = 100 := (S.2.1 41 (by decide) (by decide)).1
theorem ln_41 {h : PH} (S : Shape h) : ln h 41 = 240 := (S.2.1 41 (by decide) (by decide)).2
theorem fa_41 : finA 41 = true := by decide +kernel
theorem tg_42 {h : PH} (S : Shape h) : tg h 42 = 100 := (S.2.1 42 (by decide) (by decide)).1
theorem ln_42 {h : PH} (S : Shape h) : ln h 42 = 240 := (S.2.1 42 (by decide) (by decide)).2
theorem fa_42 : finA 42 = true := by decide +kernel
theorem tg_43 {h : PH} (S : Shape h) : tg h 43 = 100 := (S.2.1 43 (by decide) (by decide)).1
theorem ln_43 {h : PH} (S : Shape h) : ln h 43 = 240 := (S.2.1 43 (by decide) (by decide)).2
theorem fa_43 : finA 43 = true := by decide +kernel
theorem tg_44 {h : PH} (S : Shape h) : tg h 44 = 100 := (S.2.1 44 (by decide) (by decide)).1
theorem ln_44 {h : PH} (S : Shape h) : ln h 44 = 240 := (S.2.1 44 (by decide) (by decide)).2
theorem fa_44 : finA 44 = true := by decide +kernel
theorem tg_45 {h : PH} (S : Shape h) : tg h 45 = 100 := (S.2.1 45 (by decide) (by decide)).1
theorem ln_45 {h : PH} (S : Shape h) : ln h 45 = 240 := (S.2.1 45 (by decide) (by decide)).2
theorem fa_45 : finA 45 = true := by decide +kernel
theorem tg_46 {h : PH} (S : Shape h) : tg h 46 = 100 := (S.2.1 46 (by decide) (by decide)).1
theorem ln_46 {h : PH} (S : Shape h) : ln h 46 = 240 := (S.2.1 46 (by decide) (by decide)).2
theorem fa_46 : finA 46 = true := by decide +kernel
theorem tg_47 {h : PH} (S : Shape h) : tg h 47 = 100 := (S.2.1 47 (by decide) (by decide)).1
theorem ln_47 {h : PH} (S : Shape h) : ln h 47 = 240 := (S.2.1 47 (by decide) (by decide)).2
theorem fa_47 : finA 47 = true := by decide +kernel
theorem tg_48 {h : PH} (S : Shape h) : tg h 48 = 100 := (S.2.1 48 (by decide) (by decide)).1
theorem ln_48 {h : PH} (S : Shape h) : ln h 48 = 240 := (S.2.1 48 (by decide) (by decide)).2
theorem fa_48 : finA 48 = true := by decide +kernel
theorem tg_49 {h : PH} (S : Shape h) : tg h 49 = 100 := (S.2.1 49 (by decide) (by decide)).1
theorem ln_49 {h : PH} (S : Shape h) : ln h 49 = 10 := (S.2.1 49 (by decide) (by decide)).2
theorem fa_49 : finA 49 = true := by decide +kernel
theorem tg_50 {h : PH} (S : Shape h) : tg h 50 = 100 := (S.2.1 50 (by decide) (by decide)).1
theorem ln_50 {h : PH} (S : Shape h) : ln h 50 = 10 := (S.2.1 50 (by decide) (by decide)).2
theorem fa_50 : finA 50 = true := by decide +kernel
theorem tg_51 {h : PH} (S : Shape h) : tg h 51 = 100 := (S.2.1 51 (by decide) (by decide)).1
theorem ln_51 {h : PH} (S : Shape h) : ln h 51 = 10 := (S.2.1 51 (by decide) (by decide)).2
theorem fa_51 : finA 51 = true := by decide +kernel
theorem tg_52 {h : PH} (S : Shape h) : tg h 52 = 100 := (S.2.1 52 (by decide) (by decide)).1
theorem ln_52 {h : PH} (S : Shape h) : ln h 52 = 10 := (S.2.1 52 (by decide) (by decide)).2
theorem fa_52 : finA 52 = true := by decide +kernel
theorem tg_53 {h : PH} (S : Shape h) : tg h 53 = 103 := (S.2.1 53 (by decide) (by decide)).1
theorem ln_53 {h : PH} (S : Shape h) : ln h 53 = 10 := (S.2.1 53 (by decide) (by decide)).2
theorem fa_53 : finA 53 = true := by decide +kernel
theorem tg_54 {h : PH} (S : Shape h) : tg h 54 = 100 := (S.2.1 54 (by decide) (by decide)).1
theorem ln_54 {h : PH} (S : Shape h) : ln h 54 = 10 := (S.2.1 54 (by decide) (by decide)).2
theorem fa_54 : finA 54 = true := by decide +kernel
theorem tg_55 {h : PH} (S : Shape h) : tg h 55 = 100 := (S.2.1 55 (by decide) (by decide)).1
theorem ln_55 {h : PH} (S : Shape h) : ln h 55 = 10 := (S.2.1 55 (by decide) (by decide)).2
theorem fa_55 : finA 55 = true := by decide +kernel
theorem tg_56 {h : PH} (S : Shape h) : tg h 56 = 100 := (S.2.1 56 (by decide) (by decide)).1
theorem ln_56 {h : PH} (S : Shape h) : ln h 56 = 10 := (S.2.1 56 (by decide) (by decide)).2
theorem fa_56 : finA 56 = true := by decide +kernel
theorem tg_57 {h : PH} (S : Shape h) : tg h 57 = 103 := (S.2.1 57 (by decide) (by decide)).1
theorem ln_57 {h : PH} (S : Shape h) : ln h 57 = 10 := (S.2.1 57 (by decide) (by decide)).2
theorem fa_57 : finA 57 = true := by decide +kernel
theorem tg_58 {h : PH} (S : Shape h) : tg h 58 = 100 := (S.2.1 58 (by decide) (by decide)).1
theorem ln_58 {h : PH} (S : Shape h) : ln h 58 = 240 := (S.2.1 58 (by decide) (by decide)).2
theorem fa_58 : finA 58 = true := by decide +kernel
theorem tg_59 {h : PH} (S : Shape h) : tg h 59 = 4 := (S.2.1 59 (by decide) (by decide)).1
theorem fi_59_0 {h : PH} (S : Shape h) : gv h 59 0 = 18 := S.2.2.1 (59, 0, 18) (List.mem_of_getElem? (i := 58) rfl)
theorem fi_59_1 {h : PH} (S : Shape h) : gv h 59 1 = 24 := S.2.2.1 (59, 1, 24) (List.mem_of_getElem? (i := 59) rfl)
theorem fi_59_2 {h : PH} (S : Shape h) : gv h 59 2 = 60 := S.2.2.1 (59, 2, 60) (List.mem_of_getElem? (i := 60) rfl)
theorem ff_59_3 : finF 59 3 = true := by decide +kernel
theorem fi_59_4 {h : PH} (S : Shape h) : gv h 59 4 = 61 := S.2.2.1 (59, 4, 61) (List.mem_of_getElem? (i := 61) rfl)
theorem fi_59_5 {h : PH} (S : Shape h) : gv h 59 5 = 62 := S.2.2.1 (59, 5, 62) (List.mem_of_getElem? (i := 62) rfl)
theorem ff_59_6 : finF 59 6 = true := by decide +kernel
theorem tg_60 {h : PH} (S : Shape h) : tg h 60 = 101 := (S.2.1 60 (by decide) (by decide)).1
theorem ln_60 {h : PH} (S : Shape h) : ln h 60 = 2400 := (S.2.1 60 (by decide) (by decide)).2
theorem fa_60 : finA 60 = true := by decide +kernel
theorem tg_61 {h : PH} (S : Shape h) : tg h 61 = 100 := (S.2.1 61 (by decide) (by decide)).1
theorem ln_61 {h : PH} (S : Shape h) : ln h 61 = 4 := (S.2.1 61 (by decide) (by decide)).2
theorem fa_61 : finA 61 = true := by decide +kernel
theorem tg_62 {h : PH} (S : Shape h) : tg h 62 = 100 := (S.2.1 62 (by decide) (by decide)).1
theorem ln_62 {h : PH} (S : Shape h) : ln h 62 = 4 := (S.2.1 62 (by decide) (by decide)).2
theorem fa_62 : finA 62 = true := by decide +kernel
theorem tg_63 {h : PH} (S : Shape h) : tg h 63 = 100 := (S.2.1 63 (by decide) (by decide)).1
theorem ln_63 {h : PH} (S : Shape h) : ln h 63 = 12 := (S.2.1 63 (by decide) (by decide)).2
theorem fa_63 : finA 63 = true := by decide +kernel
theorem tg_64 {h : PH} (S : Shape h) : tg h 64 = 100 := (S.2.1 64 (by decide) (by decide)).1
theorem ln_64 {h : PH} (S : Shape h) : ln h 64 = 12 := (S.2.1 64 (by decide) (by decide)).2
theorem fa_64 : finA 64 = true := by decide +kernel
theorem tg_65 {h : PH} (S : Shape h) : tg h 65 = 100 := (S.2.1 65 (by decide) (by decide)).1
theorem ln_65 {h : PH} (S : Shape h) : ln h 65 = 12 := (S.2.1 65 (by decide) (by decide)).2
theorem fa_65 : finA 65 = true := by decide +kernel
theorem tg_66 {h : PH} (S : Shape h) : tg h 66 = 12 := (S.2.1 66 (by decide) (by decide)).1
theorem fi_66_0 {h : PH} (S : Shape h) : gv h 66 0 = 67 := S.2.2.1 (66, 0, 67) (List.mem_of_getElem? (i := 63) rfl)
theorem ff_66_1 : finF 66 1 = true := by decide +kernel
theorem ff_66_2 : finF 66 2 = true := by decide +kernel
theorem ff_66_3 : finF 66 3 = true := by decide +kernel
theorem ff_66_4 : finF 66 4 = true := by decide +kernel
theorem ff_66_5 : finF 66 5 = true := by decide +kernel
theorem ff_66_6 : finF 66 6 = true := by decide +kernel
theorem ff_66_7 : finF 66 7 = true := by decide +kernel
theorem ff_66_8 : finF 66 8 = true := by decide +kernel
theorem fi_66_9 {h : PH} (S : Shape h) : gv h 66 9 = 68 := S.2.2.1 (66, 9, 68) (List.mem_of_getElem? (i := 64) rfl)
theorem fi_66_10 {h : PH} (S : Shape h) : gv h 66 10 = 69 := S.2.2.1 (66, 10, 69) (List.mem_of_getElem? (i := 65) rfl)
theorem fi_66_11 {h : PH} (S : Shape h) : gv h 66 11 = 70 := S.2.2.1 (66, 11, 70) (List.mem_of_getElem? (i := 66) rfl)
theorem fi_66_12 {h : PH} (S : Shape h) : gv h 66 12 = 71 := S.2.2.1 (66, 12, 71) (List.mem_of_getElem? (i := 67) rfl)
theorem fi_66_13 {h : PH} (S : Shape h) : gv h 66 13 = 72 := S.2.2.1 (66, 13, 72) (List.mem_of_getElem? (i := 68) rfl)
theorem fi_66_14 {h : PH} (S : Shape h) : gv h 66 14 = 73 := S.2.2.1 (66, 14, 73) (List.mem_of_getElem? (i := 69) rfl)
theorem fi_66_15 {h : PH} (S : Shape h) : gv h 66 15 = 74 := S.2.2.1 (66, 15, 74) (List.mem_of_getElem? (i := 70) rfl)
theorem fi_66_16 {h : PH} (S : Shape h) : gv h 66 16 = 75 := S.2.2.1 (66, 16, 75) (List.mem_of_getElem? (i := 71) rfl)
theorem fi_66_17 {h : PH} (S : Shape h) : gv h 66 17 = 76 := S.2.2.1 (66, 17, 76) (List.mem_of_getElem? (i := 72) rfl)
theorem fi_66_18 {h : PH} (S : Shape h) : gv h 66 18 = 77 := S.2.2.1 (66, 18, 77) (List.mem_of_getElem? (i := 73) rfl)
theorem fi_66_19 {h : PH} (S : Shape h) : gv h 66 19 = 78 := S.2.2.1 (66, 19, 78) (List.mem_of_getElem? (i := 74) rfl)
theorem fi_66_20 {h : PH} (S : Shape h) : gv h 66 20 = 79 := S.2.2.1 (66, 20, 79) (List.mem_of_getElem? (i := 75) rfl)
theorem fi_66_21 {h : PH} (S : Shape h) : gv h 66 21 = 80 := S.2.2.1 (66, 21, 80) (List.mem_of_getElem? (i := 76) rfl)
theorem fi_66_22 {h : PH} (S : Shape h) : gv h 66 22 = 81 := S.2.2.1 (66, 22, 81) (List.mem_of_getElem? (i := 77) rfl)
theorem fi_66_23 {h : PH} (S : Shape h) : gv h 66 23 = 82 := S.2.2.1 (66, 23, 82) (List.mem_of_getElem? (i := 78) rfl)
theorem fi_66_24 {h : PH} (S : Shape h) : gv h 66 24 = 83 := S.2.2.1 (66, 24, 83) (List.mem_of_getElem? (i := 79) rfl)
theorem fi_66_25 {h : PH} (S : Shape h) : gv h 66 25 = 84 := S.2.2.1 (66, 25, 84) (List.mem_of_getElem? (i := 80) rfl)
theorem ff_66_26 : finF 66 26 = true := by decide +kernel
theorem fi_66_27 {h : PH} (S : Shape h) : gv h 66 27 = 85 := S.2.2.1 (66, 27, 85) (List.mem_of_getElem? (i := 81) rfl)
theorem ff_66_28 : finF 66 28 = true := by decide +kernel
theorem ff_66_29 : finF 66 29 = true := by decide +kernel
theorem ff_66_30 : finF 66 30 = true := by decide +kernel
theorem fi_66_31 {h : PH} (S : Shape h) : gv h 66 31 = 86 := S.2.2.1 (66, 31, 86) (List.mem_of_getElem? (i := 82) rfl)
theorem fi_66_32 {h : PH} (S : Shape h) : gv h 66 32 = 87 := S.2.2.1 (66, 32, 87) (List.mem_of_getElem? (i := 83) rfl)
theorem fi_66_33 {h : PH} (S : Shape h) : gv h 66 33 = 88 := S.2.2.1 (66, 33, 88) (List.mem_of_getElem? (i := 84) rfl)
theorem fi_66_34 {h : PH} (S : Shape h) : gv h 66 34 = 89 := S.2.2.1 (66, 34, 89) (List.mem_of_getElem? (i := 85) rfl)
theorem fi_66_35 {h : PH} (S : Shape h) : gv h 66 35 = 90 := S.2.2.1 (66, 35, 90) (List.mem_of_getElem? (i := 86) rfl)
theorem fi_66_36 {h : PH} (S : Shape h) : gv h 66 36 = 91 := S.2.2.1 (66, 36, 91) (List.mem_of_getElem? (i := 87) rfl)
theorem fi_66_37 {h : PH} (S : Shape h) : gv h 66 37 = 92 := S.2.2.1 (66, 37, 92) (List.mem_of_getElem? (i := 88) rfl)
theorem ff_66_38 : finF 66 38 = true := by decide +kernel
theorem fi_66_39 {h : PH} (S : Shape h) : gv h 66 39 = 93 := S.2.2.1 (66, 39, 93) (List.mem_of_getElem? (i := 89) rfl)
theorem ff_66_40 : finF 66 40 = true := by decide +kernel
theorem fi_66_41 {h : PH} (S : Shape h) : gv h 66 41 = 94 := S.2.2.1 (66, 41, 94) (List.mem_of_getElem? (i := 90) rfl)
theorem fi_66_42 {h : PH} (S : Shape h) : gv h 66 42 = 95 := S.2.2.1 (66, 42, 95) (List.mem_of_getElem? (i := 91) rfl)
theorem fi_66_43 {h : PH} (S : Shape h) : gv h 66 43 = 96 := S.2.2.1 (66, 43, 96) (List.mem_of_getElem? (i := 92) rfl)
theorem fi_66_44 {h : PH} (S : Shape h) : gv h 66 44 = 97 := S.2.2.1 (66, 44, 97) (List.mem_of_getElem? (i := 93) rfl)
theorem fi_66_45 {h : PH} (S : Shape h) : gv h 66 45 = 98 := S.2.2.1 (66, 45, 98) (List.mem_of_getElem? (i := 94) rfl)
theorem ff_66_46 : finF 66 46 = true := by decide +kernel
theorem fi_66_47 {h : PH} (S : Shape h) : gv h 66 47 = 99 := S.2.2.1 (66, 47, 99) (List.mem_of_getElem? (i := 95) rfl)
theorem ff_66_48 : finF 66 48 = true := by decide +kernel
theorem ff_66_49 : finF 66 49 = true := by decide +kernel
theorem fi_66_50 {h : PH} (S : Shape h) : gv h 66 50 = 100 := S.2.2.1 (66, 50, 100) (List.mem_of_getElem? (i := 96) rfl)
theorem fi_66_51 {h : PH} (S : Shape h) : gv h 66 51 = 101 := S.2.2.1 (66, 51, 101) (List.mem_of_getElem? (i := 97) rfl)
theorem ff_66_52 : finF 66 52 = true := by decide +kernel
theorem fi_66_53 {h : PH} (S : Shape h) : gv h 66 53 = 102 := S.2.2.1 (66, 53, 102) (List.mem_of_getElem? (i := 98) rfl)
theorem fi_66_54 {h : PH} (S : Shape h) : gv h 66 54 = 103 := S.2.2.1 (66, 54, 103) (List.mem_of_getElem? (i := 99) rfl)
theorem fi_66_55 {h : PH} (S : Shape h) : gv h 66 55 = 104 := S.2.2.1 (66, 55, 104) (List.mem_of_getElem? (i := 100) rfl)
theorem ff_66_56 : finF 66 56 = true := by decide +kernel
theorem fi_66_57 {h : PH} (S : Shape h) : gv h 66 57 = 105 := S.2.2.1 (66, 57, 105) (List.mem_of_getElem? (i := 101) rfl)
theorem fi_66_58 {h : PH} (S : Shape h) : gv h 66 58 = 106 := S.2.2.1 (66, 58, 106) (List.mem_of_getElem? (i := 102) rfl)
theorem ff_66_59 : finF 66 59 = true := by decide +kernel
theorem fi_66_60 {h : PH} (S : Shape h) : gv h 66 60 = 107 := S.2.2.1 (66, 60, 107) (List.mem_of_getElem? (i := 103) rfl)
theorem fi_66_61 {h : PH} (S : Shape h) : gv h 66 61 = 108 := S.2.2.1 (66, 61, 108) (List.mem_of_getElem? (i := 104) rfl)
theorem ff_66_62 : finF 66 62 = true := by decide +kernel
theorem fi_66_63 {h : PH} (S : Shape h) : gv h 66 63 = 109 := S.2.2.1 (66, 63, 109) (List.mem_of_getElem? (i := 105) rfl)
theorem fi_66_64 {h : PH} (S : Shape h) : gv h 66 64 = 110 := S.2.2.1 (66, 64, 110) (List.mem_of_getElem? (i := 106) rfl)
theorem fi_66_65 {h : PH} (S : Shape h) : gv h 66 65 = 111 := S.2.2.1 (66, 65, 111) (List.mem_of_getElem? (i := 107) rfl)
theorem fi_66_66 {h : PH} (S : Shape h) : gv h 66 66 = 112 := S.2.2.1 (66, 66, 112) (List.mem_of_getElem? (i := 108) rfl)
theorem fi_66_67 {h : PH} (S : Shape h) : gv h 66 67 = 113 := S.2.2.1 (66, 67, 113) (List.mem_of_getElem? (i := 109) rfl)
theorem ff_66_68 : finF 66 68 = true := by decide +kernel
theorem fi_66_69 {h : PH} (S : Shape h) : gv h 66 69 = 114 := S.2.2.1 (66, 69, 114) (List.mem_of_getElem? (i := 110) rfl)
theorem ff_66_70 : finF 66 70 = true := by decide +kernel
theorem ff_66_71 : finF 66 71 = true := by decide +kernel
theorem fi_66_72 {h : PH} (S : Shape h) : gv h 66 72 = 115 := S.2.2.1 (66, 72, 115) (List.mem_of_getElem? (i := 111) rfl)
theorem fi_66_73 {h : PH} (S : Shape h) : gv h 66 73 = 116 := S.2.2.1 (66, 73, 116) (List.mem_of_getElem? (i := 112) rfl)
theorem fi_66_74 {h : PH} (S : Shape h) : gv h 66 74 = 117 := S.2.2.1 (66, 74, 117) (List.mem_of_getElem? (i := 113) rfl)
theorem fi_66_75 {h : PH} (S : Shape h) : gv h 66 75 = 118 := S.2.2.1 (66, 75, 118) (List.mem_of_getElem? (i := 114) rfl)
theorem fi_66_76 {h : PH} (S : Shape h) : gv h 66 76 = 119 := S.2.2.1 (66, 76, 119) (List.mem_of_getElem? (i := 115) rfl)
theorem fi_66_77 {h : PH} (S : Shape h) : gv h 66 77 = 120 := S.2.2.1 (66, 77, 120) (List.mem_of_getElem? (i := 116) rfl)
theorem fi_66_78 {h : PH} (S : Shape h) : gv h 66 78 = 121 := S.2.2.1 (66, 78, 121) (List.mem_of_getElem? (i := 117) rfl)
theorem fi_66_79 {h : PH} (S : Shape h) : gv h 66 79 = 122 := S.2.2.1 (66, 79, 122) (List.mem_of_getElem? (i := 118) rfl)
theorem fi_66_80 {h : PH} (S : Shape h) : gv h 66 80 = 123 := S.2.2.1 (66, 80, 123) (List.mem_of_getElem? (i := 119) rfl)
theorem ff_66_81 : finF 66 81 = true := by decide +kernel
theorem fi_66_82 {h : PH} (S : Shape h) : gv h 66 82 = 124 := S.2.2.1 (66, 82, 124) (List.mem_of_getElem? (i := 120) rfl)
theorem ff_66_83 : finF 66 83 = true := by decide +kernel
theorem fi_66_84 {h : PH} (S : Shape h) : gv h 66 84 = 125 := S.2.2.1 (66, 84, 125) (List.mem_of_getElem? (i := 121) rfl)
theorem ff_66_85 : finF 66 85 = true := by decide +kernel
theorem fi_66_86 {h : PH} (S : Shape h) : gv h 66 86 = 126 := S.2.2.1 (66, 86, 126) (List.mem_of_getElem? (i := 122) rfl)
theorem ff_66_87 : finF 66 87 = true := by decide +kernel
theorem fi_66_88 {h : PH} (S : Shape h) : gv h 66 88 = 127 := S.2.2.1 (66, 88, 127) (List.mem_of_getElem? (i := 123) rfl)
theorem tg_67 {h : PH} (S : Shape h) : tg h 67 = 100 := (S.2.1 67 (by decide) (by decide)).1
theorem ln_67 {h : PH} (S : Shape h) : ln h 67 = 700 := (S.2.1 67 (by decide) (by decide)).2
theorem fa_67 : finA 67 = true := by decide +kernel
theorem tg_68 {h : PH} (S : Shape h) : tg h 68 = 104 := (S.2.1 68 (by decide) (by decide)).1
theorem ln_68 {h : PH} (S : Shape h) : ln h 68 = 5 := (S.2.1 68 (by decide) (by decide)).2
theorem fa_68 : finA 68 = true := by decide +kernel
theorem tg_69 {h : PH} (S : Shape h) : tg h 69 = 104 := (S.2.1 69 (by decide) (by decide)).1
theorem ln_69 {h : PH} (S : Shape h) : ln h 69 = 2 := (S.2.1 69 (by decide) (by decide)).2
theorem fa_69 : finA 69 = true := by decide +kernel
theorem tg_70 {h : PH} (S : Shape h) : tg h 70 = 104 := (S.2.1 70 (by decide) (by decide)).1
theorem ln_70 {h : PH} (S : Shape h) : ln h 70 = 3 := (S.2.1 70 (by decide) (by decide)).2
theorem fa_70 : finA 70 = true := by decide +kernel
theorem tg_71 {h : PH} (S : Shape h) : tg h 71 = 104 := (S.2.1 71 (by decide) (by decide)).1
theorem ln_71 {h : PH} (S : Shape h) : ln h 71 = 2 := (S.2.1 71 (by decide) (by decide)).2
theorem fa_71 : finA 71 = true := by decide +kernel
theorem tg_72 {h : PH} (S : Shape h) : tg h 72 = 104 := (S.2.1 72 (by decide) (by decide)).1
theorem ln_72 {h : PH} (S : Shape h) : ln h 72 = 3 := (S.2.1 72 (by decide) (by decide)).2
theorem fa_72 : finA 72 = true := by decide +kernel
theorem tg_73 {h : PH} (S : Shape h) : tg h 73 = 104 := (S.2.1 73 (by decide) (by decide)).1
theorem ln_73 {h : PH} (S : Shape h) : ln h 73 = 3 := (S.2.1 73 (by decide) (by decide)).2
theorem fa_73 : finA 73 = true := by decide +kernel
theorem tg_74 {h : PH} (S : Shape h) : tg h 74 = 104 := (S.2.1 74 (by decide) (by decide)).1
theorem ln_74 {h : PH} (S : Shape h) : ln h 74 = 3 := (S.2.1 74 (by decide) (by decide)).2
theorem fa_74 : finA 74 = true := by decide +kernel
theorem tg_75 {h : PH} (S : Shape h) : tg h 75 = 104 := (S.2.1 75 (by decide) (by decide)).1
theorem ln_75 {h : PH} (S : Shape h) : ln h 75 = 4 := (S.2.1 75 (by decide) (by decide)).2
theorem fa_75 : finA 75 = true := by decide +kernel
theorem tg_76 {h : PH} (S : Shape h) : tg h 76 = 104 := (S.2.1 76 (by decide) (by decide)).1
theorem ln_76 {h : PH} (S : Shape h) : ln h 76 = 4 := (S.2.1 76 (by decide) (by decide)).2
theorem fa_76 : finA 76 = true := by decide +kernel
theorem tg_77 {h : PH} (S : Shape h) : tg h 77 = 104 := (S.2.1 77 (by decide) (by decide)).1
theorem ln_77 {h : PH} (S : Shape h) : ln h 77 = 6 := (S.2.1 77 (by decide) (by decide)).2
theorem fa_77 : finA 77 = true := by decide +kernel
theorem tg_78 {h : PH} (S : Shape h) : tg h 78 = 104 := (S.2.1 78 (by decide) (by decide)).1
theorem ln_78 {h : PH} (S : Shape h) : ln h 78 = 4 := (S.2.1 78 (by decide) (by decide)).2
theorem fa_78 : finA 78 = true := by decide +kernel
theorem tg_79 {h : PH} (S : Shape h) : tg h 79 = 100 := (S.2.1 79 (by decide) (by decide)).1
theorem ln_79 {h : PH} (S : Shape h) : ln h 79 = 201 := (S.2.1 79 (by decide) (by decide)).2
theorem fa_79 : finA 79 = true := by decide +kernel
theorem tg_80 {h : PH} (S : Shape h) : tg h 80 = 101 := (S.2.1 80 (by decide) (by decide)).1
theorem ln_80 {h : PH} (S : Shape h) : ln h 80 = 8040 := (S.2.1 80 (by decide) (by decide)).2
theorem fa_80 : finA 80 = true := by decide +kernel
theorem tg_81 {h : PH} (S : Shape h) : tg h 81 = 100 := (S.2.1 81 (by decide) (by decide)).1
theorem ln_81 {h : PH} (S : Shape h) : ln h 81 = 8040 := (S.2.1 81 (by decide) (by decide)).2
theorem fa_81 : finA 81 = true := by decide +kernel
theorem tg_82 {h : PH} (S : Shape h) : tg h 82 = 100 := (S.2.1 82 (by decide) (by decide)).1
theorem ln_82 {h : PH} (S : Shape h) : ln h 82 = 8040 := (S.2.1 82 (by decide) (by decide)).2
theorem fa_82 : finA 82 = true := by decide +kernel
theorem tg_83 {h : PH} (S : Shape h) : tg h 83 = 100 := (S.2.1 83 (by decide) (by decide)).1
theorem ln_83 {h : PH} (S : Shape h) : ln h 83 = 8040 := (S.2.1 83 (by decide) (by decide)).2
theorem fa_83 : finA 83 = true := by decide +kernel
theorem tg_84 {h : PH} (S : Shape h) : tg h 84 = 100 := (S.2.1 84 (by decide) (by decide)).1
theorem ln_84 {h : PH} (S : Shape h) : ln h 84 = 140700 := (S.2.1 84 (by decide) (by decide)).2
theorem fa_84 : finA 84 = true := by decide +kernel
theorem tg_85 {h : PH} (S : Shape h) : tg h 85 = 100 := (S.2.1 85 (by decide) (by decide)).1
theorem ln_85 {h : PH} (S : Shape h) : ln h 85 = 800 := (S.2.1 85 (by decide) (by decide)).2
theorem fa_85 : finA 85 = true := by decide +kernel
theorem tg_86 {h : PH} (S : Shape h) : tg h 86 = 100 := (S.2.1 86 (by decide) (by decide)).1
theorem ln_86 {h : PH} (S : Shape h) : ln h 86 = 10 := (S.2.1 86 (by decide) (by decide)).2
theorem fa_86 : finA 86 = true := by decide +kernel
theorem tg_87 {h : PH} (S : Shape h) : tg h 87 = 100 := (S.2.1 87 (by decide) (by decide)).1
theorem ln_87 {h : PH} (S : Shape h) : ln h 87 = 10 := (S.2.1 87 (by decide) (by decide)).2
theorem fa_87 : finA 87 = true := by decide +kernel
theorem tg_88 {h : PH} (S : Shape h) : tg h 88 = 100 := (S.2.1 88 (by decide) (by decide)).1
theorem ln_88 {h : PH} (S : Shape h) : ln h 88 = 676 := (S.2.1 88 (by decide) (by decide)).2
theorem fa_88 : finA 88 = true := by decide +kernel
theorem tg_89 {h : PH} (S : Shape h) : tg h 89 = 103 := (S.2.1 89 (by decide) (by decide)).1
theorem ln_89 {h : PH} (S : Shape h) : ln h 89 = 1000 := (S.2.1 89 (by decide) (by decide)).2
theorem fa_89 : finA 89 = true := by decide +kernel
theorem tg_90 {h : PH} (S : Shape h) : tg h 90 = 100 := (S.2.1 90 (by decide) (by decide)).1
theorem ln_90 {h : PH} (S : Shape h) : ln h 90 = 1000 := (S.2.1 90 (by decide) (by decide)).2
theorem fa_90 : finA 90 = true := by decide +kernel
theorem tg_91 {h : PH} (S : Shape h) : tg h 91 = 100 := (S.2.1 91 (by decide) (by decide)).1
theorem ln_91 {h : PH} (S : Shape h) : ln h 91 = 9 := (S.2.1 91 (by decide) (by decide)).2
theorem fa_91 : finA 91 = true := by decide +kernel
theorem tg_92 {h : PH} (S : Shape h) : tg h 92 = 100 := (S.2.1 92 (by decide) (by decide)).1
theorem ln_92 {h : PH} (S : Shape h) : ln h 92 = 4 := (S.2.1 92 (by decide) (by decide)).2
theorem fa_92 : finA 92 = true := by decide +kernel
theorem tg_93 {h : PH} (S : Shape h) : tg h 93 = 100 := (S.2.1 93 (by decide) (by decide)).1
theorem ln_93 {h : PH} (S : Shape h) : ln h 93 = 4 := (S.2.1 93 (by decide) (by decide)).2
theorem fa_93 : finA 93 = true := by decide +kernel
theorem tg_94 {h : PH} (S : Shape h) : tg h 94 = 100 := (S.2.1 94 (by decide) (by decide)).1
theorem ln_94 {h : PH} (S : Shape h) : ln h 94 = 201 := (S.2.1 94 (by decide) (by decide)).2
theorem fa_94 : finA 94 = true := by decide +kernel
theorem tg_95 {h : PH} (S : Shape h) : tg h 95 = 100 := (S.2.1 95 (by decide) (by decide)).1
theorem ln_95 {h : PH} (S : Shape h) : ln h 95 = 201 := (S.2.1 95 (by decide) (by decide)).2
theorem fa_95 : finA 95 = true := by decide +kernel
theorem tg_96 {h : PH} (S : Shape h) : tg h 96 = 100 := (S.2.1 96 (by decide) (by decide)).1
theorem ln_96 {h : PH} (S : Shape h) : ln h 96 = 201 := (S.2.1 96 (by decide) (by decide)).2
theorem fa_96 : finA 96 = true := by decide +kernel
theorem tg_97 {h : PH} (S : Shape h) : tg h 97 = 100 := (S.2.1 97 (by decide) (by decide)).1
theorem ln_97 {h : PH} (S : Shape h) : ln h 97 = 201 := (S.2.1 97 (by decide) (by decide)).2
theorem fa_97 : finA 97 = true := by decide +kernel
theorem tg_98 {h : PH} (S : Shape h) : tg h 98 = 100 := (S.2.1 98 (by decide) (by decide)).1
theorem ln_98 {h : PH} (S : Shape h) : ln h 98 = 201 := (S.2.1 98 (by decide) (by decide)).2
theorem fa_98 : finA 98 = true := by decide +kernel
theorem tg_99 {h : PH} (S : Shape h) : tg h 99 = 101 := (S.2.1 99 (by decide) (by decide)).1
theorem ln_99 {h : PH} (S : Shape h) : ln h 99 = 800 := (S.2.1 99 (by decide) (by decide)).2
theorem fa_99 : finA 99 = true := by decide +kernel
theorem tg_100 {h : PH} (S : Shape h) : tg h 100 = 103 := (S.2.1 100 (by decide) (by decide)).1
theorem ln_100 {h : PH} (S : Shape h) : ln h 100 = 40 := (S.2.1 100 (by decide) (by decide)).2
theorem fa_100 : finA 100 = true := by decide +kernel
theorem tg_101 {h : PH} (S : Shape h) : tg h 101 = 100 := (S.2.1 101 (by decide) (by decide)).1
theorem ln_101 {h : PH} (S : Shape h) : ln h 101 = 40 := (S.2.1 101 (by decide) (by decide)).2
theorem fa_101 : finA 101 = true := by decide +kernel
theorem tg_102 {h : PH} (S : Shape h) : tg h 102 = 100 := (S.2.1 102 (by decide) (by decide)).1
theorem ln_102 {h : PH} (S : Shape h) : ln h 102 = 100 := (S.2.1 102 (by decide) (by decide)).2
theorem fa_102 : finA 102 = true := by decide +kernel
theorem tg_103 {h : PH} (S : Shape h) : tg h 103 = 100 := (S.2.1 103 (by decide) (by decide)).1
theorem ln_103 {h : PH} (S : Shape h) : ln h 103 = 400 := (S.2.1 103 (by decide) (by decide)).2
theorem fa_103 : finA 103 = true := by decide +kernel
theorem tg_104 {h : PH} (S : Shape h) : tg h 104 = 101 := (S.2.1 104 (by decide) (by decide)).1
theorem ln_104 {h : PH} (S : Shape h) : ln h 104 = 4 := (S.2.1 104 (by decide) (by decide)).2
theorem fa_104 : finA 104 = true := by decide +kernel
theorem tg_105 {h : PH} (S : Shape h) : tg h 105 = 100 := (S.2.1 105 (by decide) (by decide)).1
theorem ln_105 {h : PH} (S : Shape h) : ln h 105 = 4 := (S.2.1 105 (by decide) (by decide)).2
theorem fa_105 : finA 105 = true := by decide +kernel
theorem tg_106 {h : PH} (S : Shape h) : tg h 106 = 100 := (S.2.1 106 (by decide) (by decide)).1
theorem ln_106 {h : PH} (S : Shape h) : ln h 106 = 4 := (S.2.1 106 (by decide) (by decide)).2
theorem fa_106 : finA 106 = true := by decide +kernel
theorem tg_107 {h : PH} (S : Shape h) : tg h 107 = 101 := (S.2.1 107 (by decide) (by decide)).1
theorem ln_107 {h : PH} (S : Shape h) : ln h 107 = 12 := (S.2.1 107 (by decide) (by decide)).2
theorem fa_107 : finA 107 = true := by decide +kernel
theorem tg_108 {h : PH} (S : Shape h) : tg h 108 = 101 := (S.2.1 108 (by decide) (by decide)).1
theorem ln_108 {h : PH} (S : Shape h) : ln h 108 = 12 := (S.2.1 108 (by decide) (by decide)).2
theorem fa_108 : finA 108 = true := by decide +kernel
theorem tg_109 {h : PH} (S : Shape h) : tg h 109 = 100 := (S.2.1 109 (by decide) (by decide)).1
theorem ln_109 {h : PH} (S : Shape h) : ln h 109 = 12 := (S.2.1 109 (by decide) (by decide)).2
theorem fa_109 : finA 109 = true := by decide +kernel
theorem tg_110 {h : PH} (S : Shape h) : tg h 110 = 100 := (S.2.1 110 (by decide) (by decide)).1
theorem ln_110 {h : PH} (S : Shape h) : ln h 110 = 13 := (S.2.1 110 (by decide) (by decide)).2
theorem fa_110 : finA 110 = true := by decide +kernel
theorem tg_111 {h : PH} (S : Shape h) : tg h 111 = 100 := (S.2.1 111 (by decide) (by decide)).1
theorem ln_111 {h : PH} (S : Shape h) : ln h 111 = 13 := (S.2.1 111 (by decide) (by decide)).2
theorem fa_111 : finA 111 = true := by decide +kernel
theorem tg_112 {h : PH} (S : Shape h) : tg h 112 = 100 := (S.2.1 112 (by decide) (by decide)).1
theorem ln_112 {h : PH} (S : Shape h) : ln h 112 = 13 := (S.2.1 112 (by decide) (by decide)).2
theorem fa_112 : finA 112 = true := by decide +kernel
theorem tg_113 {h : PH} (S : Shape h) : tg h 113 = 100 := (S.2.1 113 (by decide) (by decide)).1
theorem ln_113 {h : PH} (S : Shape h) : ln h 113 = 13 := (S.2.1 113 (by decide) (by decide)).2
theorem fa_113 : finA 113 = true := by decide +kernel
theorem tg_114 {h : PH} (S : Shape h) : tg h 114 = 100 := (S.2.1 114 (by decide) (by decide)).1
theorem ln_114 {h : PH} (S : Shape h) : ln h 114 = 12 := (S.2.1 114 (by decide) (by decide)).2
theorem fa_114 : finA 114 = true := by decide +kernel
theorem tg_115 {h : PH} (S : Shape h) : tg h 115 = 100 := (S.2.1 115 (by decide) (by decide)).1
theorem ln_115 {h : PH} (S : Shape h) : ln h 115 = 6400 := (S.2.1 115 (by decide) (by decide)).2
theorem fa_115 : finA 115 = true := by decide +kernel
theorem tg_116 {h : PH} (S : Shape h) : tg h 116 = 100 := (S.2.1 116 (by decide) (by decide)).1
theorem ln_116 {h : PH} (S : Shape h) : ln h 116 = 10 := (S.2.1 116 (by decide) (by decide)).2
theorem fa_116 : finA 116 = true := by decide +kernel
theorem tg_117 {h : PH} (S : Shape h) : tg h 117 = 100 := (S.2.1 117 (by decide) (by decide)).1
theorem ln_117 {h : PH} (S : Shape h) : ln h 117 = 10 := (S.2.1 117 (by decide) (by decide)).2
theorem fa_117 : finA 117 = true := by decide +kernel
theorem tg_118 {h : PH} (S : Shape h) : tg h 118 = 100 := (S.2.1 118 (by decide) (by decide)).1
theorem ln_118 {h : PH} (S : Shape h) : ln h 118 = 10 := (S.2.1 118 (by decide) (by decide)).2
theorem fa_118 : finA 118 = true := by decide +kernel
theorem tg_119 {h : PH} (S : Shape h) : tg h 119 = 100 := (S.2.1 119 (by decide) (by decide)).1
theorem ln_119 {h : PH} (S : Shape h) : ln h 119 = 10 := (S.2.1 119 (by decide) (by decide)).2
theorem fa_119 : finA 119 = true := by decide +kernel
theorem tg_120 {h : PH} (S : Shape h) : tg h 120 = 100 := (S.2.1 120 (by decide) (by decide)).1
theorem ln_120 {h : PH} (S : Shape h) : ln h 120 = 10 := (S.2.1 120 (by decide) (by decide)).2
theorem fa_120 : finA 120 = true := by decide +kernel
theorem tg_121 {h : PH} (S : Shape h) : tg h 121 = 100 := (S.2.1 121 (by decide) (by decide)).1
theorem ln_121 {h : PH} (S : Shape h) : ln h 121 = 10 := (S.2.1 121 (by decide) (by decide)).2
theorem fa_121 : finA 121 = true := by decide +kernel
theorem tg_122 {h : PH} (S : Shape h) : tg h 122 = 100 := (S.2.1 122 (by decide) (by decide)).1
theorem ln_122 {h : PH} (S : Shape h) : ln h 122 = 10 := (S.2.1 122 (by decide) (by decide)).2
theorem fa_122 : finA 122 = true := by decide +kernel
theorem tg_123 {h : PH} (S : Shape h) : tg h 123 = 103 := (S.2.1 123 (by decide) (by decide)).1
theorem ln_123 {h : PH} (S : Shape h) : ln h 123 = 10 := (S.2.1 123 (by decide) (by decide)).2
theorem fa_123 : finA 123 = true := by decide +kernel
theorem tg_124 {h : PH} (S : Shape h) : tg h 124 = 100 := (S.2.1 124 (by decide) (by decide)).1
theorem ln_124 {h : PH} (S : Shape h) : ln h 124 = 640 := (S.2.1 124 (by decide) (by decide)).2
theorem fa_124 : finA 124 = true := by decide +kernel
theorem tg_125 {h : PH} (S : Shape h) : tg h 125 = 101 := (S.2.1 125 (by decide) (by decide)).1
theorem ln_125 {h : PH} (S : Shape h) : ln h 125 = 4 := (S.2.1 125 (by decide) (by decide)).2
theorem fa_125 : finA 125 = true := by decide +kernel
theorem tg_126 {h : PH} (S : Shape h) : tg h 126 = 101 := (S.2.1 126 (by decide) (by decide)).1
theorem ln_126 {h : PH} (S : Shape h) : ln h 126 = 6400 := (S.2.1 126 (by decide) (by decide)).2
theorem fa_126 : finA 126 = true := by decide +kernel
theorem tg_127 {h : PH} (S : Shape h) : tg h 127 = 100 := (S.2.1 127 (by decide) (by decide)).1
theorem ln_127 {h : PH} (S : Shape h) : ln h 127 = 4 := (S.2.1 127 (by decide) (by decide)).2
theorem fa_127 : finA 127 = true := by decide +kernel
