/-! THE START: what the two constructors leave -/
def noE (S : List (Int × Int × Int)) (a : Int) : Bool := S.all (fun e => decide (e.1 ≠ a))
theorem noE_lk {S : List (Int × Int × Int)} {a : Int} (h : noE S a = true) (j : Int) : lkS S a j = 0 := by
  induction S with
  | nil => rfl
  | cons e S ih =>
    unfold noE at h
    rw [List.all_cons, Bool.and_eq_true] at h
    show (if e.1 = a ∧ e.2.1 = j then e.2.2 else lkS S a j) = 0
    rw [if_neg (fun z => (of_decide_eq_true h.1) z.1)]
    exact ih h.2
/-- values that the start has: place, field, value -/
def INIl : List (Int × Int × Int) := [(18, 6, -1), (66, 46, -1), (11, 7, -1), (66, 8, -1), (38, 3, -1), (11, 6, 0), (66, 7, 0), (3, 1, 0), (66, 1, 0), (18, 5, 0), (66, 40, 0), (2, 10, 0), (66, 59, 0), (2, 12, 0), (66, 68, 0), (38, 15, 0), (66, 70, 0), (59, 6, 0), (66, 87, 0)]
def ini3 (a : Int) : List (Int × Int × Int) := (List.range 10).map (fun (i : Nat) => (a, (i : Int), (3 : Int)))
def iniW (a : Int) (l : List Int) : List (Int × Int × Int) := (List.range l.length).map (fun (i : Nat) => (a, (i : Int), l.getD i 0))
def INIw : List (Int × Int × Int) := iniW 68 [115, 101, 110, 115, 101] ++ iniW 69 [105, 115] ++ iniW 70 [102, 111, 114] ++ iniW 71 [111, 114] ++ iniW 72 [97, 110, 100] ++ iniW 73 [110, 111, 116] ++ iniW 74 [97, 108, 108] ++ iniW 75 [115, 104, 105, 112] ++ iniW 76 [104, 111, 117, 114] ++ iniW 77 [109, 105, 110, 117, 116, 101] ++ iniW 78 [104, 97, 122, 101]
def INIz : List Int := [6, 8, 9, 10, 86, 88, 89, 90, 91, 19, 20, 21, 22, 23, 94, 95, 96, 97, 98]
def chkS (R : HR2) : Bool := decide (R.1 = (List.range 126).map (fun (i : Nat) => (TGl.getD (i + 2) (-1), LNl.getD (i + 2) 0))) && FINl.all (fun e => decide (lkS R.2 e.1 e.2.1 = e.2.2)) && (List.range 9).all (fun (s : Nat) => decide (lkS R.2 39 (s : Int) = 40 + s)) && INIl.all (fun e => decide (lkS R.2 e.1 e.2.1 = e.2.2)) && (ini3 7 ++ ini3 87).all (fun e => decide (lkS R.2 e.1 e.2.1 = e.2.2)) && INIw.all (fun e => decide (lkS R.2 e.1 e.2.1 = e.2.2)) && INIz.all (fun a => noE R.2 a)
def initX : XR := ex 900 299 100 20000 M_X11_init 0 (entry M_X11_init [.inr (.inr 2)]) [] ([(11, 13)], [])
def initM (R : HR2) : XR := ex 900 299 80 300000 M_X12_init 0 (entry M_X12_init [.inr (.inr 66)]) [] (alR R 12 (fN 12))
def okFin : Bool := match initX with
  | some (none, R) => decide (nxR R = 66) && (match initM R with
    | some (none, R') => chkS R'
    | _ => false)
  | _ => false
theorem okFin_t : okFin = true := by decide +kernel

