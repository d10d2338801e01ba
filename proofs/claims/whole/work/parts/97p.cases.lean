/-! THE LAW: each of its cases (by wip/whole/gen/gen97p.py) -/
theorem m_hoistC {d : Nat} {h : PH} {q : PQ} (S : Shape h) (s v : Int) (B : ∀ s, 0 ≤ s → s < 10 → 0 ≤ gv h 86 s ∧ gv h 86 s < 67108864 ∧ 0 ≤ gv h 87 s ∧ gv h 87 s ≤ 3)
    (K : ∀ r h', (Keep spA h h' ∧ HoistA s v (gv h 86 s) (gv h 87 s) r) → Shape h' → q (some (.inl r)) h') : Wp (d + 4) 0 0 M_X12_hoist 0 [some (.inr (.inr 66)), some (.inl s), some (.inl v)] [] h q := m_hoist S s v B (fun r h' a b S' => K r h' ⟨a, b⟩ S')
theorem m_tellsC {d : Nat} {h : PH} {q : PQ} (S : Shape h) (v : Int) (K : ∀ r h', (Keep hoA h h' ∧ TellsR v r) → Shape h' → q (some (.inl r)) h') : Wp (d + 3) 0 0 M_X12_tells 0 [some (.inr (.inr 66)), some (.inl v)] [] h q := m_tells S v (fun r h' a b S' => K r h' ⟨a, b⟩ S')
section LAW
variable {d rc rs L : Nat} {h : PH} {q : PQ} {i sc a1 a2 a3 a4 a5 : Int}
/-- the script, at sc -/
def ScA (h : PH) (sc : Int) (L : Nat) : Prop := sc = 1 ∧ tg h sc = 100 ∧ ln h sc = L
theorem ScA.of {h' : PH} (A : ScA h sc L) (s : Sc h h') : ScA h' sc L := by
  obtain ⟨e, t, l⟩ := A
  subst e
  exact ⟨rfl, s.1.trans t, s.2.1.trans l⟩
theorem ScA.val {h' : PH} (A : ScA h sc L) (s : Sc h h') (j : Int) : gv h' sc j = gv h sc j := by
  obtain ⟨e, t, l⟩ := A
  subst e
  exact s.2.2 j
set_option maxRecDepth 100000 in
theorem lw_feed (hL : L ≤ 3072) (A : ScA h sc L) (i0 : 0 ≤ i) (i6 : i + 6 ≤ L) (S : Shape h) (V : Inv h) (w1 : gv h sc (i + 1) = a1) (w2 : gv h sc (i + 2) = a2) (w3 : gv h sc (i + 3) = a3) (w4 : gv h sc (i + 4) = a4) (w5 : gv h sc (i + 5) = a5) (K : ∀ h', Inv h' → Sc h h' → Shape h' → Wp (d + 33) rc rs M_L_law 1087 [some (.inr (.inr sc)), some (.inr (.inr 2)), some (.inr (.inr 66)), some (.inl i)] [] h' q) : Wp (d + 33) rc rs M_L_law 164 [some (.inr (.inr sc)), some (.inr (.inr 2)), some (.inr (.inr 66)), some (.inl i)] [] h q := by
  obtain ⟨esc, t1, l1⟩ := id A
  refine p_aload 165 rfl rfl rfl ?_
  refine p_aload 166 rfl rfl rfl ?_
  refine p_iload 167 rfl rfl rfl ?_
  refine p_const 168 rfl rfl ?_
  refine p_iadd (z := i + 1) 169 rfl rfl (w32_id ⟨(by omega), (by omega)⟩) ?_
  refine p_iald (w := (L:Int)) (z := a1) 170 rfl rfl t1 l1 (by omega) (by omega) w1 ?_
  refine p_aload 171 rfl rfl rfl ?_
  refine p_iload 172 rfl rfl rfl ?_
  refine p_const 173 rfl rfl ?_
  refine p_iadd (z := i + 2) 174 rfl rfl (w32_id ⟨(by omega), (by omega)⟩) ?_
  refine p_iald (w := (L:Int)) (z := a2) 175 rfl rfl t1 l1 (by omega) (by omega) w2 ?_
  refine p_aload 176 rfl rfl rfl ?_
  refine p_iload 177 rfl rfl rfl ?_
  refine p_const 178 rfl rfl ?_
  refine p_iadd (z := i + 3) 179 rfl rfl (w32_id ⟨(by omega), (by omega)⟩) ?_
  refine p_iald (w := (L:Int)) (z := a3) 180 rfl rfl t1 l1 (by omega) (by omega) w3 ?_
  refine p_aload 181 rfl rfl rfl ?_
  refine p_iload 182 rfl rfl rfl ?_
  refine p_const 183 rfl rfl ?_
  refine p_iadd (z := i + 4) 184 rfl rfl (w32_id ⟨(by omega), (by omega)⟩) ?_
  refine p_iald (w := (L:Int)) (z := a4) 185 rfl rfl t1 l1 (by omega) (by omega) w4 ?_
  refine p_aload 186 rfl rfl rfl ?_
  refine p_iload 187 rfl rfl rfl ?_
  refine p_const 188 rfl rfl ?_
  refine p_iadd (z := i + 5) 189 rfl rfl (w32_id ⟨(by omega), (by omega)⟩) ?_
  refine p_iald (w := (L:Int)) (z := a5) 190 rfl rfl t1 l1 (by omega) (by omega) w5 ?_
  refine p_callv (le := [some (.inr (.inr 2)), some (.inl a1), some (.inl a2), some (.inl a3), some (.inl a4), some (.inl a5)]) (as := [.inr (.inr 2), .inl a1, .inl a2, .inl a3, .inl a4, .inl a5]) (rest := []) 193 0 0 rc rs rfl rfl (Nat.le_of_ble_eq_true rfl) rfl (Nat.le_of_ble_eq_true rfl) rfl rfl (Nat.le_of_ble_eq_true rfl) rfl (Nat.le_of_ble_eq_true rfl) rfl (Nat.zero_le _) (Nat.zero_le _) rfl rfl (tg_2 S) ?_
  refine x_feed S a1 a2 a3 a4 a5 (inv_T V).1.1 (fun r1 y1 p1 S1 => ?_)
  show Wp (d + 33) rc rs M_L_law 193 [some (.inr (.inr sc)), some (.inr (.inr 2)), some (.inr (.inr 66)), some (.inl i)] [.inl r1] y1 _
  obtain ⟨s1, fm⟩ := feed_mid V p1
  have t1 : tg y1 sc = 100 := (A.of s1).2.1
  have l1 : ln y1 sc = L := (A.of s1).2.2
  have u1 : gv y1 sc (i + 1) = a1 := (A.val s1 _).trans w1
  have u2 : gv y1 sc (i + 2) = a2 := (A.val s1 _).trans w2
  have u3 : gv y1 sc (i + 3) = a3 := (A.val s1 _).trans w3
  have u4 : gv y1 sc (i + 4) = a4 := (A.val s1 _).trans w4
  have u5 : gv y1 sc (i + 5) = a5 := (A.val s1 _).trans w5
  refine p_aload 194 rfl rfl rfl ?_
  refine p_aload 195 rfl rfl rfl ?_
  refine p_iload 196 rfl rfl rfl ?_
  refine p_const 197 rfl rfl ?_
  refine p_iadd (z := i + 1) 198 rfl rfl (w32_id ⟨(by omega), (by omega)⟩) ?_
  refine p_iald (w := (L:Int)) (z := a1) 199 rfl rfl t1 l1 (by omega) (by omega) u1 ?_
  refine p_aload 200 rfl rfl rfl ?_
  refine p_iload 201 rfl rfl rfl ?_
  refine p_const 202 rfl rfl ?_
  refine p_iadd (z := i + 2) 203 rfl rfl (w32_id ⟨(by omega), (by omega)⟩) ?_
  refine p_iald (w := (L:Int)) (z := a2) 204 rfl rfl t1 l1 (by omega) (by omega) u2 ?_
  refine p_aload 205 rfl rfl rfl ?_
  refine p_iload 206 rfl rfl rfl ?_
  refine p_const 207 rfl rfl ?_
  refine p_iadd (z := i + 3) 208 rfl rfl (w32_id ⟨(by omega), (by omega)⟩) ?_
  refine p_iald (w := (L:Int)) (z := a3) 209 rfl rfl t1 l1 (by omega) (by omega) u3 ?_
  refine p_aload 210 rfl rfl rfl ?_
  refine p_iload 211 rfl rfl rfl ?_
  refine p_const 212 rfl rfl ?_
  refine p_iadd (z := i + 4) 213 rfl rfl (w32_id ⟨(by omega), (by omega)⟩) ?_
  refine p_iald (w := (L:Int)) (z := a4) 214 rfl rfl t1 l1 (by omega) (by omega) u4 ?_
  refine p_aload 215 rfl rfl rfl ?_
  refine p_iload 216 rfl rfl rfl ?_
  refine p_const 217 rfl rfl ?_
  refine p_iadd (z := i + 5) 218 rfl rfl (w32_id ⟨(by omega), (by omega)⟩) ?_
  refine p_iald (w := (L:Int)) (z := a5) 219 rfl rfl t1 l1 (by omega) (by omega) u5 ?_
  refine p_callv (le := [some (.inr (.inr 66)), some (.inl a1), some (.inl a2), some (.inl a3), some (.inl a4), some (.inl a5), none, none]) (as := [.inr (.inr 66), .inl a1, .inl a2, .inl a3, .inl a4, .inl a5]) (rest := [.inl r1]) 222 0 0 rc rs rfl rfl (Nat.le_of_ble_eq_true rfl) rfl (Nat.le_of_ble_eq_true rfl) rfl rfl (Nat.le_of_ble_eq_true rfl) rfl (Nat.le_of_ble_eq_true rfl) rfl (Nat.zero_le _) (Nat.zero_le _) rfl rfl (tg_66 S1) ?_
  refine m_feed S1 a1 a2 a3 a4 a5 fm.2.1 (hT := fm.2.2) (fun r2 y2 p2 S2 => ?_)
  show Wp (d + 33) rc rs M_L_law 222 [some (.inr (.inr sc)), some (.inr (.inr 2)), some (.inr (.inr 66)), some (.inl i)] [.inl r2, .inl r1] y2 _
  refine p_ic_eq 225 1087 rfl rfl rfl (fun c3 => ?_) (fun c3 => ?_)
  · skip
    -- leaf 1: loop 1087 [some (.inr (.inr sc)), some (.inr (.inr 2)), some (.inr (.inr 66)), some (.inl i)] st=[] h=y2 
    obtain ⟨_, V2, s2⟩ := feed_same V p1 p2
    exact K _ V2 s2 S2
  · skip
    refine p_const 226 rfl rfl ?_
    refine p_zret rfl rfl (by decide) ?_
    -- leaf 2: answer [.inl 0] h=y2 
    exact absurd (feed_same V p1 p2).1 c3
set_option maxRecDepth 100000 in
theorem lw_end (hL : L ≤ 3072) (A : ScA h sc L) (i0 : 0 ≤ i) (i6 : i + 6 ≤ L) (S : Shape h) (V : Inv h) (w1 : gv h sc (i + 1) = a1) (K : ∀ h', Inv h' → Sc h h' → Shape h' → Wp (d + 33) rc rs M_L_law 1087 [some (.inr (.inr sc)), some (.inr (.inr 2)), some (.inr (.inr 66)), some (.inl i)] [] h' q) : Wp (d + 33) rc rs M_L_law 227 [some (.inr (.inr sc)), some (.inr (.inr 2)), some (.inr (.inr 66)), some (.inl i)] [] h q := by
  obtain ⟨esc, t1, l1⟩ := id A
  refine p_aload 228 rfl rfl rfl ?_
  refine p_aload 229 rfl rfl rfl ?_
  refine p_iload 230 rfl rfl rfl ?_
  refine p_const 231 rfl rfl ?_
  refine p_iadd (z := i + 1) 232 rfl rfl (w32_id ⟨(by omega), (by omega)⟩) ?_
  refine p_iald (w := (L:Int)) (z := a1) 233 rfl rfl t1 l1 (by omega) (by omega) w1 ?_
  refine p_callv (le := [some (.inr (.inr 2)), some (.inl a1)]) (as := [.inr (.inr 2), .inl a1]) (rest := []) 236 0 0 rc rs rfl rfl (Nat.le_of_ble_eq_true rfl) rfl (Nat.le_of_ble_eq_true rfl) rfl rfl (Nat.le_of_ble_eq_true rfl) rfl (Nat.le_of_ble_eq_true rfl) rfl (Nat.zero_le _) (Nat.zero_le _) rfl rfl (tg_2 S) ?_
  refine x_end S a1 (fun r1 y1 p1 S1 => ?_)
  show Wp (d + 33) rc rs M_L_law 236 [some (.inr (.inr sc)), some (.inr (.inr 2)), some (.inr (.inr 66)), some (.inl i)] [.inl r1] y1 _
  have s1 := end_mid p1
  have t1 : tg y1 sc = 100 := (A.of s1).2.1
  have l1 : ln y1 sc = L := (A.of s1).2.2
  have u1 : gv y1 sc (i + 1) = a1 := (A.val s1 _).trans w1
  refine p_aload 237 rfl rfl rfl ?_
  refine p_aload 238 rfl rfl rfl ?_
  refine p_iload 239 rfl rfl rfl ?_
  refine p_const 240 rfl rfl ?_
  refine p_iadd (z := i + 1) 241 rfl rfl (w32_id ⟨(by omega), (by omega)⟩) ?_
  refine p_iald (w := (L:Int)) (z := a1) 242 rfl rfl t1 l1 (by omega) (by omega) u1 ?_
  refine p_callv (le := [some (.inr (.inr 66)), some (.inl a1)]) (as := [.inr (.inr 66), .inl a1]) (rest := [.inl r1]) 245 0 0 rc rs rfl rfl (Nat.le_of_ble_eq_true rfl) rfl (Nat.le_of_ble_eq_true rfl) rfl rfl (Nat.le_of_ble_eq_true rfl) rfl (Nat.le_of_ble_eq_true rfl) rfl (Nat.zero_le _) (Nat.zero_le _) rfl rfl (tg_66 S1) ?_
  refine m_end S1 a1 (fun r2 y2 p2 S2 => ?_)
  show Wp (d + 33) rc rs M_L_law 245 [some (.inr (.inr sc)), some (.inr (.inr 2)), some (.inr (.inr 66)), some (.inl i)] [.inl r2, .inl r1] y2 _
  refine p_ic_eq 248 1087 rfl rfl rfl (fun c3 => ?_) (fun c3 => ?_)
  · skip
    -- leaf 1: loop 1087 [some (.inr (.inr sc)), some (.inr (.inr 2)), some (.inr (.inr 66)), some (.inl i)] st=[] h=y2 
    obtain ⟨_, V2, s2⟩ := end_same V p1 p2
    exact K _ V2 s2 S2
  · skip
    refine p_const 249 rfl rfl ?_
    refine p_zret rfl rfl (by decide) ?_
    -- leaf 2: answer [.inl 0] h=y2 
    exact absurd (end_same V p1 p2).1 c3
set_option maxRecDepth 100000 in
theorem lw_locker (hL : L ≤ 3072) (A : ScA h sc L) (i0 : 0 ≤ i) (i6 : i + 6 ≤ L) (S : Shape h) (V : Inv h) (w1 : gv h sc (i + 1) = a1) (w2 : gv h sc (i + 2) = a2) (w3 : gv h sc (i + 3) = a3) (K : ∀ h', Inv h' → Sc h h' → Shape h' → Wp (d + 33) rc rs M_L_law 1087 [some (.inr (.inr sc)), some (.inr (.inr 2)), some (.inr (.inr 66)), some (.inl i)] [] h' q) : Wp (d + 33) rc rs M_L_law 250 [some (.inr (.inr sc)), some (.inr (.inr 2)), some (.inr (.inr 66)), some (.inl i)] [] h q := by
  obtain ⟨esc, t1, l1⟩ := id A
  refine p_aload 251 rfl rfl rfl ?_
  refine p_aload 252 rfl rfl rfl ?_
  refine p_iload 253 rfl rfl rfl ?_
  refine p_const 254 rfl rfl ?_
  refine p_iadd (z := i + 1) 255 rfl rfl (w32_id ⟨(by omega), (by omega)⟩) ?_
  refine p_iald (w := (L:Int)) (z := a1) 256 rfl rfl t1 l1 (by omega) (by omega) w1 ?_
  refine p_aload 257 rfl rfl rfl ?_
  refine p_iload 258 rfl rfl rfl ?_
  refine p_const 259 rfl rfl ?_
  refine p_iadd (z := i + 2) 260 rfl rfl (w32_id ⟨(by omega), (by omega)⟩) ?_
  refine p_iald (w := (L:Int)) (z := a2) 261 rfl rfl t1 l1 (by omega) (by omega) w2 ?_
  refine p_aload 262 rfl rfl rfl ?_
  refine p_iload 263 rfl rfl rfl ?_
  refine p_const 264 rfl rfl ?_
  refine p_iadd (z := i + 3) 265 rfl rfl (w32_id ⟨(by omega), (by omega)⟩) ?_
  refine p_iald (w := (L:Int)) (z := a3) 266 rfl rfl t1 l1 (by omega) (by omega) w3 ?_
  refine p_callv (le := [some (.inr (.inr 2)), some (.inl a1), some (.inl a2), some (.inl a3)]) (as := [.inr (.inr 2), .inl a1, .inl a2, .inl a3]) (rest := []) 269 0 0 rc rs rfl rfl (Nat.le_of_ble_eq_true rfl) rfl (Nat.le_of_ble_eq_true rfl) rfl rfl (Nat.le_of_ble_eq_true rfl) rfl (Nat.le_of_ble_eq_true rfl) rfl (Nat.zero_le _) (Nat.zero_le _) rfl rfl (tg_2 S) ?_
  refine x_locker S a1 a2 a3 (fun r1 y1 p1 S1 => ?_)
  show Wp (d + 33) rc rs M_L_law 269 [some (.inr (.inr sc)), some (.inr (.inr 2)), some (.inr (.inr 66)), some (.inl i)] [.inl r1] y1 _
  have s1 := locker_mid p1
  have t1 : tg y1 sc = 100 := (A.of s1).2.1
  have l1 : ln y1 sc = L := (A.of s1).2.2
  have u1 : gv y1 sc (i + 1) = a1 := (A.val s1 _).trans w1
  have u2 : gv y1 sc (i + 2) = a2 := (A.val s1 _).trans w2
  have u3 : gv y1 sc (i + 3) = a3 := (A.val s1 _).trans w3
  refine p_aload 270 rfl rfl rfl ?_
  refine p_aload 271 rfl rfl rfl ?_
  refine p_iload 272 rfl rfl rfl ?_
  refine p_const 273 rfl rfl ?_
  refine p_iadd (z := i + 1) 274 rfl rfl (w32_id ⟨(by omega), (by omega)⟩) ?_
  refine p_iald (w := (L:Int)) (z := a1) 275 rfl rfl t1 l1 (by omega) (by omega) u1 ?_
  refine p_aload 276 rfl rfl rfl ?_
  refine p_iload 277 rfl rfl rfl ?_
  refine p_const 278 rfl rfl ?_
  refine p_iadd (z := i + 2) 279 rfl rfl (w32_id ⟨(by omega), (by omega)⟩) ?_
  refine p_iald (w := (L:Int)) (z := a2) 280 rfl rfl t1 l1 (by omega) (by omega) u2 ?_
  refine p_aload 281 rfl rfl rfl ?_
  refine p_iload 282 rfl rfl rfl ?_
  refine p_const 283 rfl rfl ?_
  refine p_iadd (z := i + 3) 284 rfl rfl (w32_id ⟨(by omega), (by omega)⟩) ?_
  refine p_iald (w := (L:Int)) (z := a3) 285 rfl rfl t1 l1 (by omega) (by omega) u3 ?_
  refine p_callv (le := [some (.inr (.inr 66)), some (.inl a1), some (.inl a2), some (.inl a3)]) (as := [.inr (.inr 66), .inl a1, .inl a2, .inl a3]) (rest := [.inl r1]) 288 0 0 rc rs rfl rfl (Nat.le_of_ble_eq_true rfl) rfl (Nat.le_of_ble_eq_true rfl) rfl rfl (Nat.le_of_ble_eq_true rfl) rfl (Nat.le_of_ble_eq_true rfl) rfl (Nat.zero_le _) (Nat.zero_le _) rfl rfl (tg_66 S1) ?_
  refine m_locker S1 a1 a2 a3 (fun r2 y2 p2 S2 => ?_)
  show Wp (d + 33) rc rs M_L_law 288 [some (.inr (.inr sc)), some (.inr (.inr 2)), some (.inr (.inr 66)), some (.inl i)] [.inl r2, .inl r1] y2 _
  refine p_ic_eq 291 1087 rfl rfl rfl (fun c3 => ?_) (fun c3 => ?_)
  · skip
    -- leaf 1: loop 1087 [some (.inr (.inr sc)), some (.inr (.inr 2)), some (.inr (.inr 66)), some (.inl i)] st=[] h=y2 
    obtain ⟨_, V2, s2⟩ := locker_same V p1 p2
    exact K _ V2 s2 S2
  · skip
    refine p_const 292 rfl rfl ?_
    refine p_zret rfl rfl (by decide) ?_
    -- leaf 2: answer [.inl 0] h=y2 
    exact absurd (locker_same V p1 p2).1 c3
set_option maxRecDepth 100000 in
theorem lw_like (hL : L ≤ 3072) (A : ScA h sc L) (i0 : 0 ≤ i) (i6 : i + 6 ≤ L) (S : Shape h) (V : Inv h) (w1 : gv h sc (i + 1) = a1) (w2 : gv h sc (i + 2) = a2) (w3 : gv h sc (i + 3) = a3) (K : ∀ h', Inv h' → Sc h h' → Shape h' → Wp (d + 33) rc rs M_L_law 1087 [some (.inr (.inr sc)), some (.inr (.inr 2)), some (.inr (.inr 66)), some (.inl i)] [] h' q) : Wp (d + 33) rc rs M_L_law 293 [some (.inr (.inr sc)), some (.inr (.inr 2)), some (.inr (.inr 66)), some (.inl i)] [] h q := by
  obtain ⟨esc, t1, l1⟩ := id A
  refine p_aload 294 rfl rfl rfl ?_
  refine p_aload 295 rfl rfl rfl ?_
  refine p_iload 296 rfl rfl rfl ?_
  refine p_const 297 rfl rfl ?_
  refine p_iadd (z := i + 1) 298 rfl rfl (w32_id ⟨(by omega), (by omega)⟩) ?_
  refine p_iald (w := (L:Int)) (z := a1) 299 rfl rfl t1 l1 (by omega) (by omega) w1 ?_
  refine p_aload 300 rfl rfl rfl ?_
  refine p_iload 301 rfl rfl rfl ?_
  refine p_const 302 rfl rfl ?_
  refine p_iadd (z := i + 2) 303 rfl rfl (w32_id ⟨(by omega), (by omega)⟩) ?_
  refine p_iald (w := (L:Int)) (z := a2) 304 rfl rfl t1 l1 (by omega) (by omega) w2 ?_
  refine p_aload 305 rfl rfl rfl ?_
  refine p_iload 306 rfl rfl rfl ?_
  refine p_const 307 rfl rfl ?_
  refine p_iadd (z := i + 3) 308 rfl rfl (w32_id ⟨(by omega), (by omega)⟩) ?_
  refine p_iald (w := (L:Int)) (z := a3) 309 rfl rfl t1 l1 (by omega) (by omega) w3 ?_
  refine p_callv (le := [some (.inr (.inr 2)), some (.inl a1), some (.inl a2), some (.inl a3)]) (as := [.inr (.inr 2), .inl a1, .inl a2, .inl a3]) (rest := []) 312 0 0 rc rs rfl rfl (Nat.le_of_ble_eq_true rfl) rfl (Nat.le_of_ble_eq_true rfl) rfl rfl (Nat.le_of_ble_eq_true rfl) rfl (Nat.le_of_ble_eq_true rfl) rfl (Nat.zero_le _) (Nat.zero_le _) rfl rfl (tg_2 S) ?_
  refine x_like S a1 a2 a3 (fun r1 y1 p1 S1 => ?_)
  show Wp (d + 33) rc rs M_L_law 312 [some (.inr (.inr sc)), some (.inr (.inr 2)), some (.inr (.inr 66)), some (.inl i)] [.inl r1] y1 _
  have s1 := like_mid p1
  have t1 : tg y1 sc = 100 := (A.of s1).2.1
  have l1 : ln y1 sc = L := (A.of s1).2.2
  have u1 : gv y1 sc (i + 1) = a1 := (A.val s1 _).trans w1
  have u2 : gv y1 sc (i + 2) = a2 := (A.val s1 _).trans w2
  have u3 : gv y1 sc (i + 3) = a3 := (A.val s1 _).trans w3
  refine p_aload 313 rfl rfl rfl ?_
  refine p_aload 314 rfl rfl rfl ?_
  refine p_iload 315 rfl rfl rfl ?_
  refine p_const 316 rfl rfl ?_
  refine p_iadd (z := i + 1) 317 rfl rfl (w32_id ⟨(by omega), (by omega)⟩) ?_
  refine p_iald (w := (L:Int)) (z := a1) 318 rfl rfl t1 l1 (by omega) (by omega) u1 ?_
  refine p_aload 319 rfl rfl rfl ?_
  refine p_iload 320 rfl rfl rfl ?_
  refine p_const 321 rfl rfl ?_
  refine p_iadd (z := i + 2) 322 rfl rfl (w32_id ⟨(by omega), (by omega)⟩) ?_
  refine p_iald (w := (L:Int)) (z := a2) 323 rfl rfl t1 l1 (by omega) (by omega) u2 ?_
  refine p_aload 324 rfl rfl rfl ?_
  refine p_iload 325 rfl rfl rfl ?_
  refine p_const 326 rfl rfl ?_
  refine p_iadd (z := i + 3) 327 rfl rfl (w32_id ⟨(by omega), (by omega)⟩) ?_
  refine p_iald (w := (L:Int)) (z := a3) 328 rfl rfl t1 l1 (by omega) (by omega) u3 ?_
  refine p_callv (le := [some (.inr (.inr 66)), some (.inl a1), some (.inl a2), some (.inl a3)]) (as := [.inr (.inr 66), .inl a1, .inl a2, .inl a3]) (rest := [.inl r1]) 331 0 0 rc rs rfl rfl (Nat.le_of_ble_eq_true rfl) rfl (Nat.le_of_ble_eq_true rfl) rfl rfl (Nat.le_of_ble_eq_true rfl) rfl (Nat.le_of_ble_eq_true rfl) rfl (Nat.zero_le _) (Nat.zero_le _) rfl rfl (tg_66 S1) ?_
  refine m_like S1 a1 a2 a3 (fun r2 y2 p2 S2 => ?_)
  show Wp (d + 33) rc rs M_L_law 331 [some (.inr (.inr sc)), some (.inr (.inr 2)), some (.inr (.inr 66)), some (.inl i)] [.inl r2, .inl r1] y2 _
  refine p_ic_eq 334 1087 rfl rfl rfl (fun c3 => ?_) (fun c3 => ?_)
  · skip
    -- leaf 1: loop 1087 [some (.inr (.inr sc)), some (.inr (.inr 2)), some (.inr (.inr 66)), some (.inl i)] st=[] h=y2 
    obtain ⟨_, V2, s2⟩ := like_same V p1 p2
    exact K _ V2 s2 S2
  · skip
    refine p_const 335 rfl rfl ?_
    refine p_zret rfl rfl (by decide) ?_
    -- leaf 2: answer [.inl 0] h=y2 
    exact absurd (like_same V p1 p2).1 c3
set_option maxRecDepth 100000 in
theorem lw_haze (hL : L ≤ 3072) (A : ScA h sc L) (i0 : 0 ≤ i) (i6 : i + 6 ≤ L) (S : Shape h) (V : Inv h) (w1 : gv h sc (i + 1) = a1) (w2 : gv h sc (i + 2) = a2) (K : ∀ h', Inv h' → Sc h h' → Shape h' → Wp (d + 33) rc rs M_L_law 1087 [some (.inr (.inr sc)), some (.inr (.inr 2)), some (.inr (.inr 66)), some (.inl i)] [] h' q) : Wp (d + 33) rc rs M_L_law 336 [some (.inr (.inr sc)), some (.inr (.inr 2)), some (.inr (.inr 66)), some (.inl i)] [] h q := by
  obtain ⟨esc, t1, l1⟩ := id A
  refine p_aload 337 rfl rfl rfl ?_
  refine p_aload 338 rfl rfl rfl ?_
  refine p_iload 339 rfl rfl rfl ?_
  refine p_const 340 rfl rfl ?_
  refine p_iadd (z := i + 1) 341 rfl rfl (w32_id ⟨(by omega), (by omega)⟩) ?_
  refine p_iald (w := (L:Int)) (z := a1) 342 rfl rfl t1 l1 (by omega) (by omega) w1 ?_
  refine p_aload 343 rfl rfl rfl ?_
  refine p_iload 344 rfl rfl rfl ?_
  refine p_const 345 rfl rfl ?_
  refine p_iadd (z := i + 2) 346 rfl rfl (w32_id ⟨(by omega), (by omega)⟩) ?_
  refine p_iald (w := (L:Int)) (z := a2) 347 rfl rfl t1 l1 (by omega) (by omega) w2 ?_
  refine p_callv (le := [some (.inr (.inr 2)), some (.inl a1), some (.inl a2)]) (as := [.inr (.inr 2), .inl a1, .inl a2]) (rest := []) 350 0 0 rc rs rfl rfl (Nat.le_of_ble_eq_true rfl) rfl (Nat.le_of_ble_eq_true rfl) rfl rfl (Nat.le_of_ble_eq_true rfl) rfl (Nat.le_of_ble_eq_true rfl) rfl (Nat.zero_le _) (Nat.zero_le _) rfl rfl (tg_2 S) ?_
  refine x_haze S a1 a2 (fun r1 y1 p1 S1 => ?_)
  show Wp (d + 33) rc rs M_L_law 350 [some (.inr (.inr sc)), some (.inr (.inr 2)), some (.inr (.inr 66)), some (.inl i)] [.inl r1] y1 _
  have s1 := haze_mid p1
  have t1 : tg y1 sc = 100 := (A.of s1).2.1
  have l1 : ln y1 sc = L := (A.of s1).2.2
  have u1 : gv y1 sc (i + 1) = a1 := (A.val s1 _).trans w1
  have u2 : gv y1 sc (i + 2) = a2 := (A.val s1 _).trans w2
  refine p_aload 351 rfl rfl rfl ?_
  refine p_aload 352 rfl rfl rfl ?_
  refine p_iload 353 rfl rfl rfl ?_
  refine p_const 354 rfl rfl ?_
  refine p_iadd (z := i + 1) 355 rfl rfl (w32_id ⟨(by omega), (by omega)⟩) ?_
  refine p_iald (w := (L:Int)) (z := a1) 356 rfl rfl t1 l1 (by omega) (by omega) u1 ?_
  refine p_aload 357 rfl rfl rfl ?_
  refine p_iload 358 rfl rfl rfl ?_
  refine p_const 359 rfl rfl ?_
  refine p_iadd (z := i + 2) 360 rfl rfl (w32_id ⟨(by omega), (by omega)⟩) ?_
  refine p_iald (w := (L:Int)) (z := a2) 361 rfl rfl t1 l1 (by omega) (by omega) u2 ?_
  refine p_callv (le := [some (.inr (.inr 66)), some (.inl a1), some (.inl a2)]) (as := [.inr (.inr 66), .inl a1, .inl a2]) (rest := [.inl r1]) 364 0 0 rc rs rfl rfl (Nat.le_of_ble_eq_true rfl) rfl (Nat.le_of_ble_eq_true rfl) rfl rfl (Nat.le_of_ble_eq_true rfl) rfl (Nat.le_of_ble_eq_true rfl) rfl (Nat.zero_le _) (Nat.zero_le _) rfl rfl (tg_66 S1) ?_
  refine m_haze S1 a1 a2 (fun r2 y2 p2 S2 => ?_)
  show Wp (d + 33) rc rs M_L_law 364 [some (.inr (.inr sc)), some (.inr (.inr 2)), some (.inr (.inr 66)), some (.inl i)] [.inl r2, .inl r1] y2 _
  refine p_ic_eq 367 1087 rfl rfl rfl (fun c3 => ?_) (fun c3 => ?_)
  · skip
    -- leaf 1: loop 1087 [some (.inr (.inr sc)), some (.inr (.inr 2)), some (.inr (.inr 66)), some (.inl i)] st=[] h=y2 
    obtain ⟨_, V2, s2⟩ := haze_same V p1 p2
    exact K _ V2 s2 S2
  · skip
    refine p_const 368 rfl rfl ?_
    refine p_zret rfl rfl (by decide) ?_
    -- leaf 2: answer [.inl 0] h=y2 
    exact absurd (haze_same V p1 p2).1 c3
set_option maxRecDepth 100000 in
theorem lw_far (hL : L ≤ 3072) (A : ScA h sc L) (i0 : 0 ≤ i) (i6 : i + 6 ≤ L) (S : Shape h) (V : Inv h) (w1 : gv h sc (i + 1) = a1) (w2 : gv h sc (i + 2) = a2) (K : ∀ h', Inv h' → Sc h h' → Shape h' → Wp (d + 33) rc rs M_L_law 1087 [some (.inr (.inr sc)), some (.inr (.inr 2)), some (.inr (.inr 66)), some (.inl i)] [] h' q) : Wp (d + 33) rc rs M_L_law 369 [some (.inr (.inr sc)), some (.inr (.inr 2)), some (.inr (.inr 66)), some (.inl i)] [] h q := by
  obtain ⟨esc, t1, l1⟩ := id A
  refine p_aload 370 rfl rfl rfl ?_
  refine p_aload 371 rfl rfl rfl ?_
  refine p_iload 372 rfl rfl rfl ?_
  refine p_const 373 rfl rfl ?_
  refine p_iadd (z := i + 1) 374 rfl rfl (w32_id ⟨(by omega), (by omega)⟩) ?_
  refine p_iald (w := (L:Int)) (z := a1) 375 rfl rfl t1 l1 (by omega) (by omega) w1 ?_
  refine p_aload 376 rfl rfl rfl ?_
  refine p_iload 377 rfl rfl rfl ?_
  refine p_const 378 rfl rfl ?_
  refine p_iadd (z := i + 2) 379 rfl rfl (w32_id ⟨(by omega), (by omega)⟩) ?_
  refine p_iald (w := (L:Int)) (z := a2) 380 rfl rfl t1 l1 (by omega) (by omega) w2 ?_
  refine p_callv (le := [some (.inr (.inr 2)), some (.inl a1), some (.inl a2)]) (as := [.inr (.inr 2), .inl a1, .inl a2]) (rest := []) 383 0 0 rc rs rfl rfl (Nat.le_of_ble_eq_true rfl) rfl (Nat.le_of_ble_eq_true rfl) rfl rfl (Nat.le_of_ble_eq_true rfl) rfl (Nat.le_of_ble_eq_true rfl) rfl (Nat.zero_le _) (Nat.zero_le _) rfl rfl (tg_2 S) ?_
  refine x_far S a1 a2 (fun r1 y1 p1 S1 => ?_)
  show Wp (d + 33) rc rs M_L_law 383 [some (.inr (.inr sc)), some (.inr (.inr 2)), some (.inr (.inr 66)), some (.inl i)] [.inl r1] y1 _
  have s1 := far_mid p1
  have t1 : tg y1 sc = 100 := (A.of s1).2.1
  have l1 : ln y1 sc = L := (A.of s1).2.2
  have u1 : gv y1 sc (i + 1) = a1 := (A.val s1 _).trans w1
  have u2 : gv y1 sc (i + 2) = a2 := (A.val s1 _).trans w2
  refine p_aload 384 rfl rfl rfl ?_
  refine p_aload 385 rfl rfl rfl ?_
  refine p_iload 386 rfl rfl rfl ?_
  refine p_const 387 rfl rfl ?_
  refine p_iadd (z := i + 1) 388 rfl rfl (w32_id ⟨(by omega), (by omega)⟩) ?_
  refine p_iald (w := (L:Int)) (z := a1) 389 rfl rfl t1 l1 (by omega) (by omega) u1 ?_
  refine p_aload 390 rfl rfl rfl ?_
  refine p_iload 391 rfl rfl rfl ?_
  refine p_const 392 rfl rfl ?_
  refine p_iadd (z := i + 2) 393 rfl rfl (w32_id ⟨(by omega), (by omega)⟩) ?_
  refine p_iald (w := (L:Int)) (z := a2) 394 rfl rfl t1 l1 (by omega) (by omega) u2 ?_
  refine p_callv (le := [some (.inr (.inr 66)), some (.inl a1), some (.inl a2)]) (as := [.inr (.inr 66), .inl a1, .inl a2]) (rest := [.inl r1]) 397 0 0 rc rs rfl rfl (Nat.le_of_ble_eq_true rfl) rfl (Nat.le_of_ble_eq_true rfl) rfl rfl (Nat.le_of_ble_eq_true rfl) rfl (Nat.le_of_ble_eq_true rfl) rfl (Nat.zero_le _) (Nat.zero_le _) rfl rfl (tg_66 S1) ?_
  refine m_far S1 a1 a2 (fun r2 y2 p2 S2 => ?_)
  show Wp (d + 33) rc rs M_L_law 397 [some (.inr (.inr sc)), some (.inr (.inr 2)), some (.inr (.inr 66)), some (.inl i)] [.inl r2, .inl r1] y2 _
  refine p_ic_eq 400 1087 rfl rfl rfl (fun c3 => ?_) (fun c3 => ?_)
  · skip
    -- leaf 1: loop 1087 [some (.inr (.inr sc)), some (.inr (.inr 2)), some (.inr (.inr 66)), some (.inl i)] st=[] h=y2 
    obtain ⟨_, V2, s2⟩ := far_same V p1 p2
    exact K _ V2 s2 S2
  · skip
    refine p_const 401 rfl rfl ?_
    refine p_zret rfl rfl (by decide) ?_
    -- leaf 2: answer [.inl 0] h=y2 
    exact absurd (far_same V p1 p2).1 c3
set_option maxRecDepth 100000 in
theorem lw_dim (hL : L ≤ 3072) (A : ScA h sc L) (i0 : 0 ≤ i) (i6 : i + 6 ≤ L) (S : Shape h) (V : Inv h) (w1 : gv h sc (i + 1) = a1) (w2 : gv h sc (i + 2) = a2) (K : ∀ h', Inv h' → Sc h h' → Shape h' → Wp (d + 33) rc rs M_L_law 1087 [some (.inr (.inr sc)), some (.inr (.inr 2)), some (.inr (.inr 66)), some (.inl i)] [] h' q) : Wp (d + 33) rc rs M_L_law 402 [some (.inr (.inr sc)), some (.inr (.inr 2)), some (.inr (.inr 66)), some (.inl i)] [] h q := by
  obtain ⟨esc, t1, l1⟩ := id A
  refine p_aload 403 rfl rfl rfl ?_
  refine p_aload 404 rfl rfl rfl ?_
  refine p_iload 405 rfl rfl rfl ?_
  refine p_const 406 rfl rfl ?_
  refine p_iadd (z := i + 1) 407 rfl rfl (w32_id ⟨(by omega), (by omega)⟩) ?_
  refine p_iald (w := (L:Int)) (z := a1) 408 rfl rfl t1 l1 (by omega) (by omega) w1 ?_
  refine p_aload 409 rfl rfl rfl ?_
  refine p_iload 410 rfl rfl rfl ?_
  refine p_const 411 rfl rfl ?_
  refine p_iadd (z := i + 2) 412 rfl rfl (w32_id ⟨(by omega), (by omega)⟩) ?_
  refine p_iald (w := (L:Int)) (z := a2) 413 rfl rfl t1 l1 (by omega) (by omega) w2 ?_
  refine p_callv (le := [some (.inr (.inr 2)), some (.inl a1), some (.inl a2)]) (as := [.inr (.inr 2), .inl a1, .inl a2]) (rest := []) 416 0 0 rc rs rfl rfl (Nat.le_of_ble_eq_true rfl) rfl (Nat.le_of_ble_eq_true rfl) rfl rfl (Nat.le_of_ble_eq_true rfl) rfl (Nat.le_of_ble_eq_true rfl) rfl (Nat.zero_le _) (Nat.zero_le _) rfl rfl (tg_2 S) ?_
  refine x_dim S a1 a2 (dim_pre (inv_F V)).1 (dim_pre (inv_F V)).2.1 (fun r1 p1 => ?_)
  show Wp (d + 33) rc rs M_L_law 416 [some (.inr (.inr sc)), some (.inr (.inr 2)), some (.inr (.inr 66)), some (.inl i)] [.inl r1] h _
  refine p_aload 417 rfl rfl rfl ?_
  refine p_aload 418 rfl rfl rfl ?_
  refine p_iload 419 rfl rfl rfl ?_
  refine p_const 420 rfl rfl ?_
  refine p_iadd (z := i + 1) 421 rfl rfl (w32_id ⟨(by omega), (by omega)⟩) ?_
  refine p_iald (w := (L:Int)) (z := a1) 422 rfl rfl t1 l1 (by omega) (by omega) w1 ?_
  refine p_aload 423 rfl rfl rfl ?_
  refine p_iload 424 rfl rfl rfl ?_
  refine p_const 425 rfl rfl ?_
  refine p_iadd (z := i + 2) 426 rfl rfl (w32_id ⟨(by omega), (by omega)⟩) ?_
  refine p_iald (w := (L:Int)) (z := a2) 427 rfl rfl t1 l1 (by omega) (by omega) w2 ?_
  refine p_callv (le := [some (.inr (.inr 66)), some (.inl a1), some (.inl a2)]) (as := [.inr (.inr 66), .inl a1, .inl a2]) (rest := [.inl r1]) 430 0 0 rc rs rfl rfl (Nat.le_of_ble_eq_true rfl) rfl (Nat.le_of_ble_eq_true rfl) rfl rfl (Nat.le_of_ble_eq_true rfl) rfl (Nat.le_of_ble_eq_true rfl) rfl (Nat.zero_le _) (Nat.zero_le _) rfl rfl (tg_66 S) ?_
  refine m_dim S a1 a2 (dim_pre (inv_F V)).2.2.1 (dim_pre (inv_F V)).2.2.2 (fun r2 p2 => ?_)
  show Wp (d + 33) rc rs M_L_law 430 [some (.inr (.inr sc)), some (.inr (.inr 2)), some (.inr (.inr 66)), some (.inl i)] [.inl r2, .inl r1] h _
  refine p_ic_eq 433 1087 rfl rfl rfl (fun c3 => ?_) (fun c3 => ?_)
  · skip
    -- leaf 1: loop 1087 [some (.inr (.inr sc)), some (.inr (.inr 2)), some (.inr (.inr 66)), some (.inl i)] st=[] h=h 
    exact K _ V (Sc.rf h) S
  · skip
    refine p_const 434 rfl rfl ?_
    refine p_zret rfl rfl (by decide) ?_
    -- leaf 2: answer [.inl 0] h=h 
    exact absurd (dim_same (inv_F V) p1 p2) c3
set_option maxRecDepth 100000 in
theorem lw_hoist (hL : L ≤ 3072) (A : ScA h sc L) (i0 : 0 ≤ i) (i6 : i + 6 ≤ L) (S : Shape h) (V : Inv h) (w1 : gv h sc (i + 1) = a1) (w2 : gv h sc (i + 2) = a2) (K : ∀ h', Inv h' → Sc h h' → Shape h' → Wp (d + 33) rc rs M_L_law 1087 [some (.inr (.inr sc)), some (.inr (.inr 2)), some (.inr (.inr 66)), some (.inl i)] [] h' q) : Wp (d + 33) rc rs M_L_law 435 [some (.inr (.inr sc)), some (.inr (.inr 2)), some (.inr (.inr 66)), some (.inl i)] [] h q := by
  obtain ⟨esc, t1, l1⟩ := id A
  refine p_aload 436 rfl rfl rfl ?_
  refine p_aload 437 rfl rfl rfl ?_
  refine p_iload 438 rfl rfl rfl ?_
  refine p_const 439 rfl rfl ?_
  refine p_iadd (z := i + 1) 440 rfl rfl (w32_id ⟨(by omega), (by omega)⟩) ?_
  refine p_iald (w := (L:Int)) (z := a1) 441 rfl rfl t1 l1 (by omega) (by omega) w1 ?_
  refine p_aload 442 rfl rfl rfl ?_
  refine p_iload 443 rfl rfl rfl ?_
  refine p_const 444 rfl rfl ?_
  refine p_iadd (z := i + 2) 445 rfl rfl (w32_id ⟨(by omega), (by omega)⟩) ?_
  refine p_iald (w := (L:Int)) (z := a2) 446 rfl rfl t1 l1 (by omega) (by omega) w2 ?_
  refine p_callv (le := [some (.inr (.inr 2)), some (.inl a1), some (.inl a2)]) (as := [.inr (.inr 2), .inl a1, .inl a2]) (rest := []) 449 0 0 rc rs rfl rfl (Nat.le_of_ble_eq_true rfl) rfl (Nat.le_of_ble_eq_true rfl) rfl rfl (Nat.le_of_ble_eq_true rfl) rfl (Nat.le_of_ble_eq_true rfl) rfl (Nat.zero_le _) (Nat.zero_le _) rfl rfl (tg_2 S) ?_
  refine x_hoist S a1 a2 (hoist_pre (inv_F V)).1 (fun r1 p1 => ?_)
  show Wp (d + 33) rc rs M_L_law 449 [some (.inr (.inr sc)), some (.inr (.inr 2)), some (.inr (.inr 66)), some (.inl i)] [.inl r1] h _
  refine p_aload 450 rfl rfl rfl ?_
  refine p_aload 451 rfl rfl rfl ?_
  refine p_iload 452 rfl rfl rfl ?_
  refine p_const 453 rfl rfl ?_
  refine p_iadd (z := i + 1) 454 rfl rfl (w32_id ⟨(by omega), (by omega)⟩) ?_
  refine p_iald (w := (L:Int)) (z := a1) 455 rfl rfl t1 l1 (by omega) (by omega) w1 ?_
  refine p_aload 456 rfl rfl rfl ?_
  refine p_iload 457 rfl rfl rfl ?_
  refine p_const 458 rfl rfl ?_
  refine p_iadd (z := i + 2) 459 rfl rfl (w32_id ⟨(by omega), (by omega)⟩) ?_
  refine p_iald (w := (L:Int)) (z := a2) 460 rfl rfl t1 l1 (by omega) (by omega) w2 ?_
  refine p_callv (le := [some (.inr (.inr 66)), some (.inl a1), some (.inl a2)]) (as := [.inr (.inr 66), .inl a1, .inl a2]) (rest := [.inl r1]) 463 0 0 rc rs rfl rfl (Nat.le_of_ble_eq_true rfl) rfl (Nat.le_of_ble_eq_true rfl) rfl rfl (Nat.le_of_ble_eq_true rfl) rfl (Nat.le_of_ble_eq_true rfl) rfl (Nat.zero_le _) (Nat.zero_le _) rfl rfl (tg_66 S) ?_
  refine m_hoistC S a1 a2 (hoist_pre (inv_F V)).2 (fun r2 y2 p2 S2 => ?_)
  show Wp (d + 33) rc rs M_L_law 463 [some (.inr (.inr sc)), some (.inr (.inr 2)), some (.inr (.inr 66)), some (.inl i)] [.inl r2, .inl r1] y2 _
  refine p_ic_eq 466 1087 rfl rfl rfl (fun c3 => ?_) (fun c3 => ?_)
  · skip
    -- leaf 1: loop 1087 [some (.inr (.inr sc)), some (.inr (.inr 2)), some (.inr (.inr 66)), some (.inl i)] st=[] h=y2 
    obtain ⟨V2, s2⟩ := inv_q V (p2.1.wide spA_quA)
    exact K _ V2 s2 S2
  · skip
    refine p_const 467 rfl rfl ?_
    refine p_zret rfl rfl (by decide) ?_
    -- leaf 2: answer [.inl 0] h=y2 
    exact absurd (hoist_same2 (inv_F V) p1 p2.2) c3
set_option maxRecDepth 100000 in
theorem lw_tells (hL : L ≤ 3072) (A : ScA h sc L) (i0 : 0 ≤ i) (i6 : i + 6 ≤ L) (S : Shape h) (V : Inv h) (w1 : gv h sc (i + 1) = a1) (K : ∀ h', Inv h' → Sc h h' → Shape h' → Wp (d + 33) rc rs M_L_law 1087 [some (.inr (.inr sc)), some (.inr (.inr 2)), some (.inr (.inr 66)), some (.inl i)] [] h' q) : Wp (d + 33) rc rs M_L_law 468 [some (.inr (.inr sc)), some (.inr (.inr 2)), some (.inr (.inr 66)), some (.inl i)] [] h q := by
  obtain ⟨esc, t1, l1⟩ := id A
  refine p_aload 469 rfl rfl rfl ?_
  refine p_aload 470 rfl rfl rfl ?_
  refine p_iload 471 rfl rfl rfl ?_
  refine p_const 472 rfl rfl ?_
  refine p_iadd (z := i + 1) 473 rfl rfl (w32_id ⟨(by omega), (by omega)⟩) ?_
  refine p_iald (w := (L:Int)) (z := a1) 474 rfl rfl t1 l1 (by omega) (by omega) w1 ?_
  refine p_callv (le := [some (.inr (.inr 2)), some (.inl a1)]) (as := [.inr (.inr 2), .inl a1]) (rest := []) 477 0 0 rc rs rfl rfl (Nat.le_of_ble_eq_true rfl) rfl (Nat.le_of_ble_eq_true rfl) rfl rfl (Nat.le_of_ble_eq_true rfl) rfl (Nat.le_of_ble_eq_true rfl) rfl (Nat.zero_le _) (Nat.zero_le _) rfl rfl (tg_2 S) ?_
  refine x_tells S a1 (fun r1 p1 => ?_)
  show Wp (d + 33) rc rs M_L_law 477 [some (.inr (.inr sc)), some (.inr (.inr 2)), some (.inr (.inr 66)), some (.inl i)] [.inl r1] h _
  refine p_aload 478 rfl rfl rfl ?_
  refine p_aload 479 rfl rfl rfl ?_
  refine p_iload 480 rfl rfl rfl ?_
  refine p_const 481 rfl rfl ?_
  refine p_iadd (z := i + 1) 482 rfl rfl (w32_id ⟨(by omega), (by omega)⟩) ?_
  refine p_iald (w := (L:Int)) (z := a1) 483 rfl rfl t1 l1 (by omega) (by omega) w1 ?_
  refine p_callv (le := [some (.inr (.inr 66)), some (.inl a1)]) (as := [.inr (.inr 66), .inl a1]) (rest := [.inl r1]) 486 0 0 rc rs rfl rfl (Nat.le_of_ble_eq_true rfl) rfl (Nat.le_of_ble_eq_true rfl) rfl rfl (Nat.le_of_ble_eq_true rfl) rfl (Nat.le_of_ble_eq_true rfl) rfl (Nat.zero_le _) (Nat.zero_le _) rfl rfl (tg_66 S) ?_
  refine m_tellsC S a1 (fun r2 y2 p2 S2 => ?_)
  show Wp (d + 33) rc rs M_L_law 486 [some (.inr (.inr sc)), some (.inr (.inr 2)), some (.inr (.inr 66)), some (.inl i)] [.inl r2, .inl r1] y2 _
  refine p_ic_eq 489 1087 rfl rfl rfl (fun c3 => ?_) (fun c3 => ?_)
  · skip
    -- leaf 1: loop 1087 [some (.inr (.inr sc)), some (.inr (.inr 2)), some (.inr (.inr 66)), some (.inl i)] st=[] h=y2 
    obtain ⟨V2, s2⟩ := inv_q V (p2.1.wide hoA_quA)
    exact K _ V2 s2 S2
  · skip
    refine p_const 490 rfl rfl ?_
    refine p_zret rfl rfl (by decide) ?_
    -- leaf 2: answer [.inl 0] h=y2 
    exact absurd (tells_same p1 p2.2) c3
set_option maxRecDepth 100000 in
theorem lw_fault (hL : L ≤ 3072) (A : ScA h sc L) (i0 : 0 ≤ i) (i6 : i + 6 ≤ L) (S : Shape h) (V : Inv h) (w1 : gv h sc (i + 1) = a1) (K : ∀ h', Inv h' → Sc h h' → Shape h' → Wp (d + 33) rc rs M_L_law 1087 [some (.inr (.inr sc)), some (.inr (.inr 2)), some (.inr (.inr 66)), some (.inl i)] [] h' q) : Wp (d + 33) rc rs M_L_law 504 [some (.inr (.inr sc)), some (.inr (.inr 2)), some (.inr (.inr 66)), some (.inl i)] [] h q := by
  obtain ⟨esc, t1, l1⟩ := id A
  refine p_aload 505 rfl rfl rfl ?_
  refine p_aload 506 rfl rfl rfl ?_
  refine p_iload 507 rfl rfl rfl ?_
  refine p_const 508 rfl rfl ?_
  refine p_iadd (z := i + 1) 509 rfl rfl (w32_id ⟨(by omega), (by omega)⟩) ?_
  refine p_iald (w := (L:Int)) (z := a1) 510 rfl rfl t1 l1 (by omega) (by omega) w1 ?_
  refine p_callv (le := [some (.inr (.inr 2)), some (.inl a1)]) (as := [.inr (.inr 2), .inl a1]) (rest := []) 513 0 0 rc rs rfl rfl (Nat.le_of_ble_eq_true rfl) rfl (Nat.le_of_ble_eq_true rfl) rfl rfl (Nat.le_of_ble_eq_true rfl) rfl (Nat.le_of_ble_eq_true rfl) rfl (Nat.zero_le _) (Nat.zero_le _) rfl rfl (tg_2 S) ?_
  refine x_fault S a1 ?_
  show Wp (d + 33) rc rs M_L_law 513 [some (.inr (.inr sc)), some (.inr (.inr 2)), some (.inr (.inr 66)), some (.inl i)] [.inl (if a1 = 0 then gv h 11 6 else if a1 = 1 then gv h 11 7 else -1)] h _
  refine p_aload 514 rfl rfl rfl ?_
  refine p_aload 515 rfl rfl rfl ?_
  refine p_iload 516 rfl rfl rfl ?_
  refine p_const 517 rfl rfl ?_
  refine p_iadd (z := i + 1) 518 rfl rfl (w32_id ⟨(by omega), (by omega)⟩) ?_
  refine p_iald (w := (L:Int)) (z := a1) 519 rfl rfl t1 l1 (by omega) (by omega) w1 ?_
  refine p_callv (le := [some (.inr (.inr 66)), some (.inl a1)]) (as := [.inr (.inr 66), .inl a1]) (rest := [.inl (if a1 = 0 then gv h 11 6 else if a1 = 1 then gv h 11 7 else -1)]) 522 0 0 rc rs rfl rfl (Nat.le_of_ble_eq_true rfl) rfl (Nat.le_of_ble_eq_true rfl) rfl rfl (Nat.le_of_ble_eq_true rfl) rfl (Nat.le_of_ble_eq_true rfl) rfl (Nat.zero_le _) (Nat.zero_le _) rfl rfl (tg_66 S) ?_
  refine m_fault S a1 ?_
  show Wp (d + 33) rc rs M_L_law 522 [some (.inr (.inr sc)), some (.inr (.inr 2)), some (.inr (.inr 66)), some (.inl i)] [.inl (if a1 = 0 then gv h 66 7 else if a1 = 1 then gv h 66 8 else -1), .inl (if a1 = 0 then gv h 11 6 else if a1 = 1 then gv h 11 7 else -1)] h _
  refine p_ic_eq 525 1087 rfl rfl rfl (fun c3 => ?_) (fun c3 => ?_)
  · skip
    -- leaf 1: loop 1087 [some (.inr (.inr sc)), some (.inr (.inr 2)), some (.inr (.inr 66)), some (.inl i)] st=[] h=h 
    exact K _ V (Sc.rf h) S
  · skip
    refine p_const 526 rfl rfl ?_
    refine p_zret rfl rfl (by decide) ?_
    -- leaf 2: answer [.inl 0] h=h 
    exact absurd (by rw [V.2.2.2.2.2.2.2.2.1, V.2.2.2.2.2.2.2.2.2]) c3
set_option maxRecDepth 100000 in
theorem lw_senses (hL : L ≤ 3072) (A : ScA h sc L) (i0 : 0 ≤ i) (i6 : i + 6 ≤ L) (S : Shape h) (V : Inv h)  (K : ∀ h', Inv h' → Sc h h' → Shape h' → Wp (d + 33) rc rs M_L_law 1087 [some (.inr (.inr sc)), some (.inr (.inr 2)), some (.inr (.inr 66)), some (.inl i)] [] h' q) : Wp (d + 33) rc rs M_L_law 527 [some (.inr (.inr sc)), some (.inr (.inr 2)), some (.inr (.inr 66)), some (.inl i)] [] h q := by
  obtain ⟨esc, t1, l1⟩ := id A
  refine p_aload 528 rfl rfl rfl ?_
  refine p_callv (le := [some (.inr (.inr 2)), none]) (as := [.inr (.inr 2)]) (rest := []) 531 0 0 rc rs rfl rfl (Nat.le_of_ble_eq_true rfl) rfl (Nat.le_of_ble_eq_true rfl) rfl rfl (Nat.le_of_ble_eq_true rfl) rfl (Nat.le_of_ble_eq_true rfl) rfl (Nat.zero_le _) (Nat.zero_le _) rfl rfl (tg_2 S) ?_
  refine x_senses S (inv_A V) (fun r1 p1 => ?_)
  show Wp (d + 33) rc rs M_L_law 531 [some (.inr (.inr sc)), some (.inr (.inr 2)), some (.inr (.inr 66)), some (.inl i)] [.inl r1] h _
  refine p_aload 532 rfl rfl rfl ?_
  refine p_callv (le := [some (.inr (.inr 66)), none]) (as := [.inr (.inr 66)]) (rest := [.inl r1]) 535 0 0 rc rs rfl rfl (Nat.le_of_ble_eq_true rfl) rfl (Nat.le_of_ble_eq_true rfl) rfl rfl (Nat.le_of_ble_eq_true rfl) rfl (Nat.le_of_ble_eq_true rfl) rfl (Nat.zero_le _) (Nat.zero_le _) rfl rfl (tg_66 S) ?_
  refine m_senses S (inv_A V) (fun r2 p2 => ?_)
  show Wp (d + 33) rc rs M_L_law 535 [some (.inr (.inr sc)), some (.inr (.inr 2)), some (.inr (.inr 66)), some (.inl i)] [.inl r2, .inl r1] h _
  refine p_ic_eq 538 1087 rfl rfl rfl (fun c3 => ?_) (fun c3 => ?_)
  · skip
    -- leaf 1: loop 1087 [some (.inr (.inr sc)), some (.inr (.inr 2)), some (.inr (.inr 66)), some (.inl i)] st=[] h=h 
    exact K _ V (Sc.rf h) S
  · skip
    refine p_const 539 rfl rfl ?_
    refine p_zret rfl rfl (by decide) ?_
    -- leaf 2: answer [.inl 0] h=h 
    exact absurd (p1.trans p2.symm) c3
set_option maxRecDepth 100000 in
theorem lw_holds (hL : L ≤ 3072) (A : ScA h sc L) (i0 : 0 ≤ i) (i6 : i + 6 ≤ L) (S : Shape h) (V : Inv h) (w1 : gv h sc (i + 1) = a1) (w2 : gv h sc (i + 2) = a2) (w3 : gv h sc (i + 3) = a3) (K : ∀ h', Inv h' → Sc h h' → Shape h' → Wp (d + 33) rc rs M_L_law 1087 [some (.inr (.inr sc)), some (.inr (.inr 2)), some (.inr (.inr 66)), some (.inl i)] [] h' q) : Wp (d + 33) rc rs M_L_law 599 [some (.inr (.inr sc)), some (.inr (.inr 2)), some (.inr (.inr 66)), some (.inl i)] [] h q := by
  obtain ⟨esc, t1, l1⟩ := id A
  refine p_aload 600 rfl rfl rfl ?_
  refine p_aload 601 rfl rfl rfl ?_
  refine p_iload 602 rfl rfl rfl ?_
  refine p_const 603 rfl rfl ?_
  refine p_iadd (z := i + 1) 604 rfl rfl (w32_id ⟨(by omega), (by omega)⟩) ?_
  refine p_iald (w := (L:Int)) (z := a1) 605 rfl rfl t1 l1 (by omega) (by omega) w1 ?_
  refine p_aload 606 rfl rfl rfl ?_
  refine p_iload 607 rfl rfl rfl ?_
  refine p_const 608 rfl rfl ?_
  refine p_iadd (z := i + 2) 609 rfl rfl (w32_id ⟨(by omega), (by omega)⟩) ?_
  refine p_iald (w := (L:Int)) (z := a2) 610 rfl rfl t1 l1 (by omega) (by omega) w2 ?_
  refine p_aload 611 rfl rfl rfl ?_
  refine p_iload 612 rfl rfl rfl ?_
  refine p_const 613 rfl rfl ?_
  refine p_iadd (z := i + 3) 614 rfl rfl (w32_id ⟨(by omega), (by omega)⟩) ?_
  refine p_iald (w := (L:Int)) (z := a3) 615 rfl rfl t1 l1 (by omega) (by omega) w3 ?_
  refine p_callv (le := [some (.inr (.inr 2)), some (.inl a1), some (.inl a2), some (.inl a3), none]) (as := [.inr (.inr 2), .inl a1, .inl a2, .inl a3]) (rest := []) 618 0 0 rc rs rfl rfl (Nat.le_of_ble_eq_true rfl) rfl (Nat.le_of_ble_eq_true rfl) rfl rfl (Nat.le_of_ble_eq_true rfl) rfl (Nat.le_of_ble_eq_true rfl) rfl (Nat.zero_le _) (Nat.zero_le _) rfl rfl (tg_2 S) ?_
  refine x_holds S (inv_A V) (inv_F V) a1 a2 a3 (fun r1 y1 p1 S1 => ?_)
  show Wp (d + 33) rc rs M_L_law 618 [some (.inr (.inr sc)), some (.inr (.inr 2)), some (.inr (.inr 66)), some (.inl i)] [.inl r1] y1 _
  have am := ask_mid V p1.1
  have s1 := am.2.2.2
  have t1 : tg y1 sc = 100 := (A.of s1).2.1
  have l1 : ln y1 sc = L := (A.of s1).2.2
  have u1 : gv y1 sc (i + 1) = a1 := (A.val s1 _).trans w1
  have u2 : gv y1 sc (i + 2) = a2 := (A.val s1 _).trans w2
  have u3 : gv y1 sc (i + 3) = a3 := (A.val s1 _).trans w3
  refine p_aload 619 rfl rfl rfl ?_
  refine p_aload 620 rfl rfl rfl ?_
  refine p_iload 621 rfl rfl rfl ?_
  refine p_const 622 rfl rfl ?_
  refine p_iadd (z := i + 1) 623 rfl rfl (w32_id ⟨(by omega), (by omega)⟩) ?_
  refine p_iald (w := (L:Int)) (z := a1) 624 rfl rfl t1 l1 (by omega) (by omega) u1 ?_
  refine p_aload 625 rfl rfl rfl ?_
  refine p_iload 626 rfl rfl rfl ?_
  refine p_const 627 rfl rfl ?_
  refine p_iadd (z := i + 2) 628 rfl rfl (w32_id ⟨(by omega), (by omega)⟩) ?_
  refine p_iald (w := (L:Int)) (z := a2) 629 rfl rfl t1 l1 (by omega) (by omega) u2 ?_
  refine p_aload 630 rfl rfl rfl ?_
  refine p_iload 631 rfl rfl rfl ?_
  refine p_const 632 rfl rfl ?_
  refine p_iadd (z := i + 3) 633 rfl rfl (w32_id ⟨(by omega), (by omega)⟩) ?_
  refine p_iald (w := (L:Int)) (z := a3) 634 rfl rfl t1 l1 (by omega) (by omega) u3 ?_
  refine p_callv (le := [some (.inr (.inr 66)), some (.inl a1), some (.inl a2), some (.inl a3)]) (as := [.inr (.inr 66), .inl a1, .inl a2, .inl a3]) (rest := [.inl r1]) 637 0 0 rc rs rfl rfl (Nat.le_of_ble_eq_true rfl) rfl (Nat.le_of_ble_eq_true rfl) rfl rfl (Nat.le_of_ble_eq_true rfl) rfl (Nat.le_of_ble_eq_true rfl) rfl (Nat.zero_le _) (Nat.zero_le _) rfl rfl (tg_66 S1) ?_
  refine m_holds S1 am.2.1 am.2.2.1 a1 a2 a3 (fun r2 y2 p2 S2 => ?_)
  show Wp (d + 33) rc rs M_L_law 637 [some (.inr (.inr sc)), some (.inr (.inr 2)), some (.inr (.inr 66)), some (.inl i)] [.inl r2, .inl r1] y2 _
  refine p_ic_eq 640 1087 rfl rfl rfl (fun c3 => ?_) (fun c3 => ?_)
  · skip
    -- leaf 1: loop 1087 [some (.inr (.inr sc)), some (.inr (.inr 2)), some (.inr (.inr 66)), some (.inl i)] st=[] h=y2 
    obtain ⟨V2, s2⟩ := inv_q V ((p1.1.wide xA_quA).trans (p2.1.wide mhA_quA))
    exact K _ V2 s2 S2
  · skip
    refine p_const 641 rfl rfl ?_
    refine p_zret rfl rfl (by decide) ?_
    -- leaf 2: answer [.inl 0] h=y2 
    exact absurd (holds_same p1.2 am.1 p2.2) c3
set_option maxRecDepth 100000 in
theorem lw_read (hL : L ≤ 3072) (A : ScA h sc L) (i0 : 0 ≤ i) (i6 : i + 6 ≤ L) (S : Shape h) (V : Inv h) (w1 : gv h sc (i + 1) = a1) (w2 : gv h sc (i + 2) = a2) (w3 : gv h sc (i + 3) = a3) (K : ∀ h', Inv h' → Sc h h' → Shape h' → Wp (d + 33) rc rs M_L_law 1087 [some (.inr (.inr sc)), some (.inr (.inr 2)), some (.inr (.inr 66)), some (.inl i)] [] h' q) : Wp (d + 33) rc rs M_L_law 642 [some (.inr (.inr sc)), some (.inr (.inr 2)), some (.inr (.inr 66)), some (.inl i)] [] h q := by
  obtain ⟨esc, t1, l1⟩ := id A
  refine p_aload 643 rfl rfl rfl ?_
  refine p_aload 644 rfl rfl rfl ?_
  refine p_iload 645 rfl rfl rfl ?_
  refine p_const 646 rfl rfl ?_
  refine p_iadd (z := i + 1) 647 rfl rfl (w32_id ⟨(by omega), (by omega)⟩) ?_
  refine p_iald (w := (L:Int)) (z := a1) 648 rfl rfl t1 l1 (by omega) (by omega) w1 ?_
  refine p_aload 649 rfl rfl rfl ?_
  refine p_iload 650 rfl rfl rfl ?_
  refine p_const 651 rfl rfl ?_
  refine p_iadd (z := i + 2) 652 rfl rfl (w32_id ⟨(by omega), (by omega)⟩) ?_
  refine p_iald (w := (L:Int)) (z := a2) 653 rfl rfl t1 l1 (by omega) (by omega) w2 ?_
  refine p_aload 654 rfl rfl rfl ?_
  refine p_iload 655 rfl rfl rfl ?_
  refine p_const 656 rfl rfl ?_
  refine p_iadd (z := i + 3) 657 rfl rfl (w32_id ⟨(by omega), (by omega)⟩) ?_
  refine p_iald (w := (L:Int)) (z := a3) 658 rfl rfl t1 l1 (by omega) (by omega) w3 ?_
  refine p_callv (le := [some (.inr (.inr 2)), some (.inl a1), some (.inl a2), some (.inl a3), none]) (as := [.inr (.inr 2), .inl a1, .inl a2, .inl a3]) (rest := []) 661 0 0 rc rs rfl rfl (Nat.le_of_ble_eq_true rfl) rfl (Nat.le_of_ble_eq_true rfl) rfl rfl (Nat.le_of_ble_eq_true rfl) rfl (Nat.le_of_ble_eq_true rfl) rfl (Nat.zero_le _) (Nat.zero_le _) rfl rfl (tg_2 S) ?_
  refine x_read S (inv_A V) (inv_F V) a1 a2 a3 (fun r1 y1 p1 S1 => ?_)
  show Wp (d + 33) rc rs M_L_law 661 [some (.inr (.inr sc)), some (.inr (.inr 2)), some (.inr (.inr 66)), some (.inl i)] [.inl r1] y1 _
  have am := ask_mid V p1.1
  have s1 := am.2.2.2
  have t1 : tg y1 sc = 100 := (A.of s1).2.1
  have l1 : ln y1 sc = L := (A.of s1).2.2
  have u1 : gv y1 sc (i + 1) = a1 := (A.val s1 _).trans w1
  have u2 : gv y1 sc (i + 2) = a2 := (A.val s1 _).trans w2
  have u3 : gv y1 sc (i + 3) = a3 := (A.val s1 _).trans w3
  refine p_aload 662 rfl rfl rfl ?_
  refine p_aload 663 rfl rfl rfl ?_
  refine p_iload 664 rfl rfl rfl ?_
  refine p_const 665 rfl rfl ?_
  refine p_iadd (z := i + 1) 666 rfl rfl (w32_id ⟨(by omega), (by omega)⟩) ?_
  refine p_iald (w := (L:Int)) (z := a1) 667 rfl rfl t1 l1 (by omega) (by omega) u1 ?_
  refine p_aload 668 rfl rfl rfl ?_
  refine p_iload 669 rfl rfl rfl ?_
  refine p_const 670 rfl rfl ?_
  refine p_iadd (z := i + 2) 671 rfl rfl (w32_id ⟨(by omega), (by omega)⟩) ?_
  refine p_iald (w := (L:Int)) (z := a2) 672 rfl rfl t1 l1 (by omega) (by omega) u2 ?_
  refine p_aload 673 rfl rfl rfl ?_
  refine p_iload 674 rfl rfl rfl ?_
  refine p_const 675 rfl rfl ?_
  refine p_iadd (z := i + 3) 676 rfl rfl (w32_id ⟨(by omega), (by omega)⟩) ?_
  refine p_iald (w := (L:Int)) (z := a3) 677 rfl rfl t1 l1 (by omega) (by omega) u3 ?_
  refine p_callv (le := [some (.inr (.inr 66)), some (.inl a1), some (.inl a2), some (.inl a3), none]) (as := [.inr (.inr 66), .inl a1, .inl a2, .inl a3]) (rest := [.inl r1]) 680 0 0 rc rs rfl rfl (Nat.le_of_ble_eq_true rfl) rfl (Nat.le_of_ble_eq_true rfl) rfl rfl (Nat.le_of_ble_eq_true rfl) rfl (Nat.le_of_ble_eq_true rfl) rfl (Nat.zero_le _) (Nat.zero_le _) rfl rfl (tg_66 S1) ?_
  refine m_read S1 am.2.1 am.2.2.1 a1 a2 a3 (fun r2 y2 p2 S2 => ?_)
  show Wp (d + 33) rc rs M_L_law 680 [some (.inr (.inr sc)), some (.inr (.inr 2)), some (.inr (.inr 66)), some (.inl i)] [.inl r2, .inl r1] y2 _
  refine p_ic_eq 683 1087 rfl rfl rfl (fun c3 => ?_) (fun c3 => ?_)
  · skip
    -- leaf 1: loop 1087 [some (.inr (.inr sc)), some (.inr (.inr 2)), some (.inr (.inr 66)), some (.inl i)] st=[] h=y2 
    obtain ⟨V2, s2⟩ := inv_q V ((p1.1.wide xA_quA).trans (p2.1.wide mA_quA))
    exact K _ V2 s2 S2
  · skip
    refine p_const 684 rfl rfl ?_
    refine p_zret rfl rfl (by decide) ?_
    -- leaf 2: answer [.inl 0] h=y2 
    exact absurd (p1.2.same am.1 p2.2) c3
set_option maxRecDepth 100000 in
theorem lw_may (hL : L ≤ 3072) (A : ScA h sc L) (i0 : 0 ≤ i) (i6 : i + 6 ≤ L) (S : Shape h) (V : Inv h) (w1 : gv h sc (i + 1) = a1) (w2 : gv h sc (i + 2) = a2) (w3 : gv h sc (i + 3) = a3) (w4 : gv h sc (i + 4) = a4) (K : ∀ h', Inv h' → Sc h h' → Shape h' → Wp (d + 33) rc rs M_L_law 1087 [some (.inr (.inr sc)), some (.inr (.inr 2)), some (.inr (.inr 66)), some (.inl i)] [] h' q) : Wp (d + 33) rc rs M_L_law 754 [some (.inr (.inr sc)), some (.inr (.inr 2)), some (.inr (.inr 66)), some (.inl i)] [] h q := by
  obtain ⟨esc, t1, l1⟩ := id A
  refine p_aload 755 rfl rfl rfl ?_
  refine p_aload 756 rfl rfl rfl ?_
  refine p_iload 757 rfl rfl rfl ?_
  refine p_const 758 rfl rfl ?_
  refine p_iadd (z := i + 1) 759 rfl rfl (w32_id ⟨(by omega), (by omega)⟩) ?_
  refine p_iald (w := (L:Int)) (z := a1) 760 rfl rfl t1 l1 (by omega) (by omega) w1 ?_
  refine p_aload 761 rfl rfl rfl ?_
  refine p_iload 762 rfl rfl rfl ?_
  refine p_const 763 rfl rfl ?_
  refine p_iadd (z := i + 2) 764 rfl rfl (w32_id ⟨(by omega), (by omega)⟩) ?_
  refine p_iald (w := (L:Int)) (z := a2) 765 rfl rfl t1 l1 (by omega) (by omega) w2 ?_
  refine p_aload 766 rfl rfl rfl ?_
  refine p_iload 767 rfl rfl rfl ?_
  refine p_const 768 rfl rfl ?_
  refine p_iadd (z := i + 3) 769 rfl rfl (w32_id ⟨(by omega), (by omega)⟩) ?_
  refine p_iald (w := (L:Int)) (z := a3) 770 rfl rfl t1 l1 (by omega) (by omega) w3 ?_
  refine p_aload 771 rfl rfl rfl ?_
  refine p_iload 772 rfl rfl rfl ?_
  refine p_const 773 rfl rfl ?_
  refine p_iadd (z := i + 4) 774 rfl rfl (w32_id ⟨(by omega), (by omega)⟩) ?_
  refine p_iald (w := (L:Int)) (z := a4) 775 rfl rfl t1 l1 (by omega) (by omega) w4 ?_
  refine p_callv (le := [some (.inr (.inr 2)), some (.inl a1), some (.inl a2), some (.inl a3), some (.inl a4), none]) (as := [.inr (.inr 2), .inl a1, .inl a2, .inl a3, .inl a4]) (rest := []) 778 0 0 rc rs rfl rfl (Nat.le_of_ble_eq_true rfl) rfl (Nat.le_of_ble_eq_true rfl) rfl rfl (Nat.le_of_ble_eq_true rfl) rfl (Nat.le_of_ble_eq_true rfl) rfl (Nat.zero_le _) (Nat.zero_le _) rfl rfl (tg_2 S) ?_
  refine x_may S (inv_A V) (inv_F V) a1 a2 a3 a4 (fun r1 y1 p1 S1 => ?_)
  show Wp (d + 33) rc rs M_L_law 778 [some (.inr (.inr sc)), some (.inr (.inr 2)), some (.inr (.inr 66)), some (.inl i)] [.inl r1] y1 _
  have am := ask_mid V p1.1
  have s1 := am.2.2.2
  have t1 : tg y1 sc = 100 := (A.of s1).2.1
  have l1 : ln y1 sc = L := (A.of s1).2.2
  have u1 : gv y1 sc (i + 1) = a1 := (A.val s1 _).trans w1
  have u2 : gv y1 sc (i + 2) = a2 := (A.val s1 _).trans w2
  have u3 : gv y1 sc (i + 3) = a3 := (A.val s1 _).trans w3
  have u4 : gv y1 sc (i + 4) = a4 := (A.val s1 _).trans w4
  refine p_aload 779 rfl rfl rfl ?_
  refine p_aload 780 rfl rfl rfl ?_
  refine p_iload 781 rfl rfl rfl ?_
  refine p_const 782 rfl rfl ?_
  refine p_iadd (z := i + 1) 783 rfl rfl (w32_id ⟨(by omega), (by omega)⟩) ?_
  refine p_iald (w := (L:Int)) (z := a1) 784 rfl rfl t1 l1 (by omega) (by omega) u1 ?_
  refine p_aload 785 rfl rfl rfl ?_
  refine p_iload 786 rfl rfl rfl ?_
  refine p_const 787 rfl rfl ?_
  refine p_iadd (z := i + 2) 788 rfl rfl (w32_id ⟨(by omega), (by omega)⟩) ?_
  refine p_iald (w := (L:Int)) (z := a2) 789 rfl rfl t1 l1 (by omega) (by omega) u2 ?_
  refine p_aload 790 rfl rfl rfl ?_
  refine p_iload 791 rfl rfl rfl ?_
  refine p_const 792 rfl rfl ?_
  refine p_iadd (z := i + 3) 793 rfl rfl (w32_id ⟨(by omega), (by omega)⟩) ?_
  refine p_iald (w := (L:Int)) (z := a3) 794 rfl rfl t1 l1 (by omega) (by omega) u3 ?_
  refine p_aload 795 rfl rfl rfl ?_
  refine p_iload 796 rfl rfl rfl ?_
  refine p_const 797 rfl rfl ?_
  refine p_iadd (z := i + 4) 798 rfl rfl (w32_id ⟨(by omega), (by omega)⟩) ?_
  refine p_iald (w := (L:Int)) (z := a4) 799 rfl rfl t1 l1 (by omega) (by omega) u4 ?_
  refine p_callv (le := [some (.inr (.inr 66)), some (.inl a1), some (.inl a2), some (.inl a3), some (.inl a4), none]) (as := [.inr (.inr 66), .inl a1, .inl a2, .inl a3, .inl a4]) (rest := [.inl r1]) 802 0 0 rc rs rfl rfl (Nat.le_of_ble_eq_true rfl) rfl (Nat.le_of_ble_eq_true rfl) rfl rfl (Nat.le_of_ble_eq_true rfl) rfl (Nat.le_of_ble_eq_true rfl) rfl (Nat.zero_le _) (Nat.zero_le _) rfl rfl (tg_66 S1) ?_
  refine m_may S1 am.2.1 am.2.2.1 a1 a2 a3 a4 (fun r2 y2 p2 S2 => ?_)
  show Wp (d + 33) rc rs M_L_law 802 [some (.inr (.inr sc)), some (.inr (.inr 2)), some (.inr (.inr 66)), some (.inl i)] [.inl r2, .inl r1] y2 _
  refine p_ic_eq 805 1087 rfl rfl rfl (fun c3 => ?_) (fun c3 => ?_)
  · skip
    -- leaf 1: loop 1087 [some (.inr (.inr sc)), some (.inr (.inr 2)), some (.inr (.inr 66)), some (.inl i)] st=[] h=y2 
    obtain ⟨V2, s2⟩ := inv_q V ((p1.1.wide xA_quA).trans (p2.1.wide mA_quA))
    exact K _ V2 s2 S2
  · skip
    refine p_const 806 rfl rfl ?_
    refine p_zret rfl rfl (by decide) ?_
    -- leaf 2: answer [.inl 0] h=y2 
    exact absurd (p1.2.same am.1 p2.2) c3
set_option maxRecDepth 100000 in
theorem lw_taken (hL : L ≤ 3072) (A : ScA h sc L) (i0 : 0 ≤ i) (i6 : i + 6 ≤ L) (S : Shape h) (V : Inv h) (w1 : gv h sc (i + 1) = a1) (w2 : gv h sc (i + 2) = a2) (K : ∀ h', Inv h' → Sc h h' → Shape h' → Wp (d + 33) rc rs M_L_law 1087 [some (.inr (.inr sc)), some (.inr (.inr 2)), some (.inr (.inr 66)), some (.inl i)] [] h' q) : Wp (d + 33) rc rs M_L_law 985 [some (.inr (.inr sc)), some (.inr (.inr 2)), some (.inr (.inr 66)), some (.inl i)] [] h q := by
  obtain ⟨esc, t1, l1⟩ := id A
  refine p_aload 986 rfl rfl rfl ?_
  refine p_aload 987 rfl rfl rfl ?_
  refine p_iload 988 rfl rfl rfl ?_
  refine p_const 989 rfl rfl ?_
  refine p_iadd (z := i + 1) 990 rfl rfl (w32_id ⟨(by omega), (by omega)⟩) ?_
  refine p_iald (w := (L:Int)) (z := a1) 991 rfl rfl t1 l1 (by omega) (by omega) w1 ?_
  refine p_aload 992 rfl rfl rfl ?_
  refine p_iload 993 rfl rfl rfl ?_
  refine p_const 994 rfl rfl ?_
  refine p_iadd (z := i + 2) 995 rfl rfl (w32_id ⟨(by omega), (by omega)⟩) ?_
  refine p_iald (w := (L:Int)) (z := a2) 996 rfl rfl t1 l1 (by omega) (by omega) w2 ?_
  refine p_callv (le := [some (.inr (.inr 2)), some (.inl a1), some (.inl a2)]) (as := [.inr (.inr 2), .inl a1, .inl a2]) (rest := []) 999 0 0 rc rs rfl rfl (Nat.le_of_ble_eq_true rfl) rfl (Nat.le_of_ble_eq_true rfl) rfl rfl (Nat.le_of_ble_eq_true rfl) rfl (Nat.le_of_ble_eq_true rfl) rfl (Nat.zero_le _) (Nat.zero_le _) rfl rfl (tg_2 S) ?_
  refine x_taken S (inv_A V) (inv_F V) a1 a2 (fun r1 y1 p1 S1 => ?_)
  show Wp (d + 33) rc rs M_L_law 999 [some (.inr (.inr sc)), some (.inr (.inr 2)), some (.inr (.inr 66)), some (.inl i)] [.inl r1] y1 _
  have am := ask_mid V p1.1
  have s1 := am.2.2.2
  have t1 : tg y1 sc = 100 := (A.of s1).2.1
  have l1 : ln y1 sc = L := (A.of s1).2.2
  have u1 : gv y1 sc (i + 1) = a1 := (A.val s1 _).trans w1
  have u2 : gv y1 sc (i + 2) = a2 := (A.val s1 _).trans w2
  refine p_aload 1000 rfl rfl rfl ?_
  refine p_aload 1001 rfl rfl rfl ?_
  refine p_iload 1002 rfl rfl rfl ?_
  refine p_const 1003 rfl rfl ?_
  refine p_iadd (z := i + 1) 1004 rfl rfl (w32_id ⟨(by omega), (by omega)⟩) ?_
  refine p_iald (w := (L:Int)) (z := a1) 1005 rfl rfl t1 l1 (by omega) (by omega) u1 ?_
  refine p_aload 1006 rfl rfl rfl ?_
  refine p_iload 1007 rfl rfl rfl ?_
  refine p_const 1008 rfl rfl ?_
  refine p_iadd (z := i + 2) 1009 rfl rfl (w32_id ⟨(by omega), (by omega)⟩) ?_
  refine p_iald (w := (L:Int)) (z := a2) 1010 rfl rfl t1 l1 (by omega) (by omega) u2 ?_
  refine p_callv (le := [some (.inr (.inr 66)), some (.inl a1), some (.inl a2)]) (as := [.inr (.inr 66), .inl a1, .inl a2]) (rest := [.inl r1]) 1013 0 0 rc rs rfl rfl (Nat.le_of_ble_eq_true rfl) rfl (Nat.le_of_ble_eq_true rfl) rfl rfl (Nat.le_of_ble_eq_true rfl) rfl (Nat.le_of_ble_eq_true rfl) rfl (Nat.zero_le _) (Nat.zero_le _) rfl rfl (tg_66 S1) ?_
  refine m_taken S1 am.2.1 am.2.2.1 a1 a2 (fun r2 y2 p2 S2 => ?_)
  show Wp (d + 33) rc rs M_L_law 1013 [some (.inr (.inr sc)), some (.inr (.inr 2)), some (.inr (.inr 66)), some (.inl i)] [.inl r2, .inl r1] y2 _
  refine p_ic_eq 1016 1087 rfl rfl rfl (fun c3 => ?_) (fun c3 => ?_)
  · skip
    -- leaf 1: loop 1087 [some (.inr (.inr sc)), some (.inr (.inr 2)), some (.inr (.inr 66)), some (.inl i)] st=[] h=y2 
    obtain ⟨V2, s2⟩ := inv_q V ((p1.1.wide xA_quA).trans (p2.1.wide mtkA_quA))
    exact K _ V2 s2 S2
  · skip
    refine p_const 1017 rfl rfl ?_
    refine p_zret rfl rfl (by decide) ?_
    -- leaf 2: answer [.inl 0] h=y2 
    exact absurd (p1.2.same am.1 p2.2) c3
set_option maxRecDepth 100000 in
theorem lw_message (hL : L ≤ 3072) (A : ScA h sc L) (i0 : 0 ≤ i) (i6 : i + 6 ≤ L) (S : Shape h) (V : Inv h)  (K : ∀ h', Inv h' → Sc h h' → Shape h' → Wp (d + 33) rc rs M_L_law 1087 [some (.inr (.inr sc)), some (.inr (.inr 2)), some (.inr (.inr 66)), some (.inl i)] [] h' q) : Wp (d + 33) rc rs M_L_law 685 [some (.inr (.inr sc)), some (.inr (.inr 2)), some (.inr (.inr 66)), some (.inl i)] [] h q := by
  obtain ⟨esc, t1, l1⟩ := id A
  refine p_aload 686 rfl rfl rfl ?_
  refine p_callv (le := [some (.inr (.inr 2)), none, none]) (as := [.inr (.inr 2)]) (rest := []) 689 0 0 rc rs rfl rfl (Nat.le_of_ble_eq_true rfl) rfl (Nat.le_of_ble_eq_true rfl) rfl rfl (Nat.le_of_ble_eq_true rfl) rfl (Nat.le_of_ble_eq_true rfl) rfl (Nat.zero_le _) (Nat.zero_le _) rfl rfl (tg_2 S) ?_
  refine x_message S (inv_A V) (inv_T V).txt.1 (inv_T V).txt.2.1 (fun r1 y1 p1 S1 => ?_)
  show Wp (d + 33) rc rs M_L_law 689 [some (.inr (.inr sc)), some (.inr (.inr 2)), some (.inr (.inr 66)), some (.inl i)] [.inl r1] y1 _
  have s1 : Sc h y1 := sc_of p1.1 (fun _ => rfl)
  have t1 : tg y1 sc = 100 := (A.of s1).2.1
  have l1 : ln y1 sc = L := (A.of s1).2.2
  refine p_aload 690 rfl rfl rfl ?_
  refine p_callv (le := [some (.inr (.inr 66)), none, none, none, none]) (as := [.inr (.inr 66)]) (rest := [.inl r1]) 693 0 0 rc rs rfl rfl (Nat.le_of_ble_eq_true rfl) rfl (Nat.le_of_ble_eq_true rfl) rfl rfl (Nat.le_of_ble_eq_true rfl) rfl (Nat.le_of_ble_eq_true rfl) rfl (Nat.zero_le _) (Nat.zero_le _) rfl rfl (tg_66 S1) ?_
  refine m_message S1 ((inv_A V).kp (p1.1.wide xmA_bkB)) (inv_T V).txt.1 ((p1.1.1 66 1 rfl).trans (inv_T V).2.1) (fun i i0 i1 => (p1.1.1 67 i rfl).trans ((inv_T V).txt.2.2 i i0 i1)) (fun r2 y2 p2 S2 => ?_)
  show Wp (d + 33) rc rs M_L_law 693 [some (.inr (.inr sc)), some (.inr (.inr 2)), some (.inr (.inr 66)), some (.inl i)] [.inl r2, .inl r1] y2 _
  refine p_ic_eq 696 1087 rfl rfl rfl (fun c3 => ?_) (fun c3 => ?_)
  · skip
    -- leaf 1: loop 1087 [some (.inr (.inr sc)), some (.inr (.inr 2)), some (.inr (.inr 66)), some (.inl i)] st=[] h=y2 
    obtain ⟨_, V2, s2⟩ := message_same2 V p1.1 p1.2 p2.1 p2.2
    exact K _ V2 s2 S2
  · skip
    refine p_const 697 rfl rfl ?_
    refine p_zret rfl rfl (by decide) ?_
    -- leaf 2: answer [.inl 0] h=y2 
    exact absurd (message_same2 V p1.1 p1.2 p2.1 p2.2).1 c3
set_option maxRecDepth 100000 in
theorem lw_send (hL : L ≤ 3072) (A : ScA h sc L) (i0 : 0 ≤ i) (i6 : i + 6 ≤ L) (S : Shape h) (V : Inv h) (w1 : gv h sc (i + 1) = a1) (w2 : gv h sc (i + 2) = a2) (K : ∀ h', Inv h' → Sc h h' → Shape h' → Wp (d + 33) rc rs M_L_law 1087 [some (.inr (.inr sc)), some (.inr (.inr 2)), some (.inr (.inr 66)), some (.inl i)] [] h' q) : Wp (d + 33) rc rs M_L_law 698 [some (.inr (.inr sc)), some (.inr (.inr 2)), some (.inr (.inr 66)), some (.inl i)] [] h q := by
  obtain ⟨esc, t1, l1⟩ := id A
  refine p_aload 699 rfl rfl rfl ?_
  refine p_aload 700 rfl rfl rfl ?_
  refine p_iload 701 rfl rfl rfl ?_
  refine p_const 702 rfl rfl ?_
  refine p_iadd (z := i + 1) 703 rfl rfl (w32_id ⟨(by omega), (by omega)⟩) ?_
  refine p_iald (w := (L:Int)) (z := a1) 704 rfl rfl t1 l1 (by omega) (by omega) w1 ?_
  refine p_aload 705 rfl rfl rfl ?_
  refine p_iload 706 rfl rfl rfl ?_
  refine p_const 707 rfl rfl ?_
  refine p_iadd (z := i + 2) 708 rfl rfl (w32_id ⟨(by omega), (by omega)⟩) ?_
  refine p_iald (w := (L:Int)) (z := a2) 709 rfl rfl t1 l1 (by omega) (by omega) w2 ?_
  refine p_callv (le := [some (.inr (.inr 2)), some (.inl a1), some (.inl a2), none, none]) (as := [.inr (.inr 2), .inl a1, .inl a2]) (rest := []) 712 0 0 rc rs rfl rfl (Nat.le_of_ble_eq_true rfl) rfl (Nat.le_of_ble_eq_true rfl) rfl rfl (Nat.le_of_ble_eq_true rfl) rfl (Nat.le_of_ble_eq_true rfl) rfl (Nat.zero_le _) (Nat.zero_le _) rfl rfl (tg_2 S) ?_
  refine x_send S (inv_A V) (inv_F V) (inv_M V) a1 a2 (fun r1 y1 p1 S1 => ?_)
  show Wp (d + 33) rc rs M_L_law 712 [some (.inr (.inr sc)), some (.inr (.inr 2)), some (.inr (.inr 66)), some (.inl i)] [.inl r1] y1 _
  have mm := send_mid V p1.1
  have s1 := mm.2.2.2
  have t1 : tg y1 sc = 100 := (A.of s1).2.1
  have l1 : ln y1 sc = L := (A.of s1).2.2
  have u1 : gv y1 sc (i + 1) = a1 := (A.val s1 _).trans w1
  have u2 : gv y1 sc (i + 2) = a2 := (A.val s1 _).trans w2
  refine p_aload 713 rfl rfl rfl ?_
  refine p_aload 714 rfl rfl rfl ?_
  refine p_iload 715 rfl rfl rfl ?_
  refine p_const 716 rfl rfl ?_
  refine p_iadd (z := i + 1) 717 rfl rfl (w32_id ⟨(by omega), (by omega)⟩) ?_
  refine p_iald (w := (L:Int)) (z := a1) 718 rfl rfl t1 l1 (by omega) (by omega) u1 ?_
  refine p_aload 719 rfl rfl rfl ?_
  refine p_iload 720 rfl rfl rfl ?_
  refine p_const 721 rfl rfl ?_
  refine p_iadd (z := i + 2) 722 rfl rfl (w32_id ⟨(by omega), (by omega)⟩) ?_
  refine p_iald (w := (L:Int)) (z := a2) 723 rfl rfl t1 l1 (by omega) (by omega) u2 ?_
  refine p_callv (le := [some (.inr (.inr 66)), some (.inl a1), some (.inl a2), none, none]) (as := [.inr (.inr 66), .inl a1, .inl a2]) (rest := [.inl r1]) 726 0 0 rc rs rfl rfl (Nat.le_of_ble_eq_true rfl) rfl (Nat.le_of_ble_eq_true rfl) rfl rfl (Nat.le_of_ble_eq_true rfl) rfl (Nat.le_of_ble_eq_true rfl) rfl (Nat.zero_le _) (Nat.zero_le _) rfl rfl (tg_66 S1) ?_
  refine m_send S1 mm.1 mm.2.1 mm.2.2.1 a1 a2 (fun r2 y2 p2 S2 => ?_)
  show Wp (d + 33) rc rs M_L_law 726 [some (.inr (.inr sc)), some (.inr (.inr 2)), some (.inr (.inr 66)), some (.inl i)] [.inl r2, .inl r1] y2 _
  refine p_ic_eq 729 1087 rfl rfl rfl (fun c3 => ?_) (fun c3 => ?_)
  · skip
    -- leaf 1: loop 1087 [some (.inr (.inr sc)), some (.inr (.inr 2)), some (.inr (.inr 66)), some (.inl i)] st=[] h=y2 
    obtain ⟨_, V2, s2⟩ := send_same2 V p1.1 p1.2 p2.1 p2.2
    exact K _ V2 s2 S2
  · skip
    refine p_const 730 rfl rfl ?_
    refine p_zret rfl rfl (by decide) ?_
    -- leaf 2: answer [.inl 0] h=y2 
    exact absurd (send_same2 V p1.1 p1.2 p2.1 p2.2).1 c3
set_option maxRecDepth 100000 in
theorem lw_line (hL : L ≤ 3072) (A : ScA h sc L) (i0 : 0 ≤ i) (i6 : i + 6 ≤ L) (S : Shape h) (V : Inv h) (w1 : gv h sc (i + 1) = a1) (w2 : gv h sc (i + 2) = a2) (K : ∀ h', Inv h' → Sc h h' → Shape h' → Wp (d + 33) rc rs M_L_law 1087 [some (.inr (.inr sc)), some (.inr (.inr 2)), some (.inr (.inr 66)), some (.inl i)] [] h' q) : Wp (d + 33) rc rs M_L_law 807 [some (.inr (.inr sc)), some (.inr (.inr 2)), some (.inr (.inr 66)), some (.inl i)] [] h q := by
  obtain ⟨esc, t1, l1⟩ := id A
  refine p_aload 808 rfl rfl rfl ?_
  refine p_aload 809 rfl rfl rfl ?_
  refine p_iload 810 rfl rfl rfl ?_
  refine p_const 811 rfl rfl ?_
  refine p_iadd (z := i + 1) 812 rfl rfl (w32_id ⟨(by omega), (by omega)⟩) ?_
  refine p_iald (w := (L:Int)) (z := a1) 813 rfl rfl t1 l1 (by omega) (by omega) w1 ?_
  refine p_aload 814 rfl rfl rfl ?_
  refine p_iload 815 rfl rfl rfl ?_
  refine p_const 816 rfl rfl ?_
  refine p_iadd (z := i + 2) 817 rfl rfl (w32_id ⟨(by omega), (by omega)⟩) ?_
  refine p_iald (w := (L:Int)) (z := a2) 818 rfl rfl t1 l1 (by omega) (by omega) w2 ?_
  refine p_callv (le := [some (.inr (.inr 2)), some (.inl a1), some (.inl a2), none]) (as := [.inr (.inr 2), .inl a1, .inl a2]) (rest := []) 821 0 0 rc rs rfl rfl (Nat.le_of_ble_eq_true rfl) rfl (Nat.le_of_ble_eq_true rfl) rfl rfl (Nat.le_of_ble_eq_true rfl) rfl (Nat.le_of_ble_eq_true rfl) rfl (Nat.zero_le _) (Nat.zero_le _) rfl rfl (tg_2 S) ?_
  refine x_line S (inv_A V) (inv_F V) (inv_M V) a1 a2 (fun r1 y1 p1 S1 => ?_)
  show Wp (d + 33) rc rs M_L_law 821 [some (.inr (.inr sc)), some (.inr (.inr 2)), some (.inr (.inr 66)), some (.inl i)] [.inl r1] y1 _
  have mm := line_mid V p1.1
  have s1 := mm.2.2.2
  have t1 : tg y1 sc = 100 := (A.of s1).2.1
  have l1 : ln y1 sc = L := (A.of s1).2.2
  have u1 : gv y1 sc (i + 1) = a1 := (A.val s1 _).trans w1
  have u2 : gv y1 sc (i + 2) = a2 := (A.val s1 _).trans w2
  refine p_aload 822 rfl rfl rfl ?_
  refine p_aload 823 rfl rfl rfl ?_
  refine p_iload 824 rfl rfl rfl ?_
  refine p_const 825 rfl rfl ?_
  refine p_iadd (z := i + 1) 826 rfl rfl (w32_id ⟨(by omega), (by omega)⟩) ?_
  refine p_iald (w := (L:Int)) (z := a1) 827 rfl rfl t1 l1 (by omega) (by omega) u1 ?_
  refine p_aload 828 rfl rfl rfl ?_
  refine p_iload 829 rfl rfl rfl ?_
  refine p_const 830 rfl rfl ?_
  refine p_iadd (z := i + 2) 831 rfl rfl (w32_id ⟨(by omega), (by omega)⟩) ?_
  refine p_iald (w := (L:Int)) (z := a2) 832 rfl rfl t1 l1 (by omega) (by omega) u2 ?_
  refine p_callv (le := [some (.inr (.inr 66)), some (.inl a1), some (.inl a2), none, none, none, none]) (as := [.inr (.inr 66), .inl a1, .inl a2]) (rest := [.inl r1]) 835 0 0 rc rs rfl rfl (Nat.le_of_ble_eq_true rfl) rfl (Nat.le_of_ble_eq_true rfl) rfl rfl (Nat.le_of_ble_eq_true rfl) rfl (Nat.le_of_ble_eq_true rfl) rfl (Nat.zero_le _) (Nat.zero_le _) rfl rfl (tg_66 S1) ?_
  refine m_line S1 mm.1 mm.2.1 mm.2.2.1 a1 a2 (fun r2 y2 p2 S2 => ?_)
  show Wp (d + 33) rc rs M_L_law 835 [some (.inr (.inr sc)), some (.inr (.inr 2)), some (.inr (.inr 66)), some (.inl i)] [.inl r2, .inl r1] y2 _
  refine p_ic_eq 838 1087 rfl rfl rfl (fun c3 => ?_) (fun c3 => ?_)
  · skip
    -- leaf 1: loop 1087 [some (.inr (.inr sc)), some (.inr (.inr 2)), some (.inr (.inr 66)), some (.inl i)] st=[] h=y2 
    obtain ⟨_, V2, s2⟩ := line_same2 V p1.1 p1.2 p2.1 p2.2
    exact K _ V2 s2 S2
  · skip
    refine p_const 839 rfl rfl ?_
    refine p_zret rfl rfl (by decide) ?_
    -- leaf 2: answer [.inl 0] h=y2 
    exact absurd (line_same2 V p1.1 p1.2 p2.1 p2.2).1 c3
set_option maxRecDepth 100000 in
theorem lw_change (hL : L ≤ 3072) (A : ScA h sc L) (i0 : 0 ≤ i) (i6 : i + 6 ≤ L) (S : Shape h) (V : Inv h) (w1 : gv h sc (i + 1) = a1) (K : ∀ h', Inv h' → Sc h h' → Shape h' → Wp (d + 33) rc rs M_L_law 1087 [some (.inr (.inr sc)), some (.inr (.inr 2)), some (.inr (.inr 66)), some (.inl i)] [] h' q) : Wp (d + 33) rc rs M_L_law 1018 [some (.inr (.inr sc)), some (.inr (.inr 2)), some (.inr (.inr 66)), some (.inl i)] [] h q := by
  obtain ⟨esc, t1, l1⟩ := id A
  refine p_aload 1019 rfl rfl rfl ?_
  refine p_aload 1020 rfl rfl rfl ?_
  refine p_iload 1021 rfl rfl rfl ?_
  refine p_const 1022 rfl rfl ?_
  refine p_iadd (z := i + 1) 1023 rfl rfl (w32_id ⟨(by omega), (by omega)⟩) ?_
  refine p_iald (w := (L:Int)) (z := a1) 1024 rfl rfl t1 l1 (by omega) (by omega) w1 ?_
  refine p_callv (le := [some (.inr (.inr 2)), some (.inl a1)]) (as := [.inr (.inr 2), .inl a1]) (rest := []) 1027 0 0 rc rs rfl rfl (Nat.le_of_ble_eq_true rfl) rfl (Nat.le_of_ble_eq_true rfl) rfl rfl (Nat.le_of_ble_eq_true rfl) rfl (Nat.le_of_ble_eq_true rfl) rfl (Nat.zero_le _) (Nat.zero_le _) rfl rfl (tg_2 S) ?_
  refine x_change S (inv_A V) (inv_F V) a1 (fun r1 y1 p1 S1 => ?_)
  show Wp (d + 33) rc rs M_L_law 1027 [some (.inr (.inr sc)), some (.inr (.inr 2)), some (.inr (.inr 66)), some (.inl i)] [.inl r1] y1 _
  have mm := change_mid V p1.1
  have s1 := mm.2.2
  have t1 : tg y1 sc = 100 := (A.of s1).2.1
  have l1 : ln y1 sc = L := (A.of s1).2.2
  have u1 : gv y1 sc (i + 1) = a1 := (A.val s1 _).trans w1
  refine p_aload 1028 rfl rfl rfl ?_
  refine p_aload 1029 rfl rfl rfl ?_
  refine p_iload 1030 rfl rfl rfl ?_
  refine p_const 1031 rfl rfl ?_
  refine p_iadd (z := i + 1) 1032 rfl rfl (w32_id ⟨(by omega), (by omega)⟩) ?_
  refine p_iald (w := (L:Int)) (z := a1) 1033 rfl rfl t1 l1 (by omega) (by omega) u1 ?_
  refine p_callv (le := [some (.inr (.inr 66)), some (.inl a1), none, none, none, none, none, none]) (as := [.inr (.inr 66), .inl a1]) (rest := [.inl r1]) 1036 0 0 rc rs rfl rfl (Nat.le_of_ble_eq_true rfl) rfl (Nat.le_of_ble_eq_true rfl) rfl rfl (Nat.le_of_ble_eq_true rfl) rfl (Nat.le_of_ble_eq_true rfl) rfl (Nat.zero_le _) (Nat.zero_le _) rfl rfl (tg_66 S1) ?_
  refine m_change S1 mm.1 mm.2.1 a1 (fun r2 y2 p2 S2 => ?_)
  show Wp (d + 33) rc rs M_L_law 1036 [some (.inr (.inr sc)), some (.inr (.inr 2)), some (.inr (.inr 66)), some (.inl i)] [.inl r2, .inl r1] y2 _
  refine p_ic_eq 1039 1087 rfl rfl rfl (fun c3 => ?_) (fun c3 => ?_)
  · skip
    -- leaf 1: loop 1087 [some (.inr (.inr sc)), some (.inr (.inr 2)), some (.inr (.inr 66)), some (.inl i)] st=[] h=y2 
    obtain ⟨_, V2, s2⟩ := change_same2 V p1.1 p1.2 p2.1 p2.2
    exact K _ V2 s2 S2
  · skip
    refine p_const 1040 rfl rfl ?_
    refine p_zret rfl rfl (by decide) ?_
    -- leaf 2: answer [.inl 0] h=y2 
    exact absurd (change_same2 V p1.1 p1.2 p2.1 p2.2).1 c3
set_option maxRecDepth 100000 in
theorem lw_sent (hL : L ≤ 3072) (A : ScA h sc L) (i0 : 0 ≤ i) (i6 : i + 6 ≤ L) (S : Shape h) (V : Inv h) (w1 : gv h sc (i + 1) = a1) (K : ∀ h', Inv h' → Sc h h' → Shape h' → Wp (d + 33) rc rs M_L_law 1087 [some (.inr (.inr sc)), some (.inr (.inr 2)), some (.inr (.inr 66)), some (.inl i)] [] h' q) : Wp (d + 33) rc rs M_L_law 731 [some (.inr (.inr sc)), some (.inr (.inr 2)), some (.inr (.inr 66)), some (.inl i)] [] h q := by
  obtain ⟨esc, t1, l1⟩ := id A
  refine p_aload 732 rfl rfl rfl ?_
  refine p_aload 733 rfl rfl rfl ?_
  refine p_iload 734 rfl rfl rfl ?_
  refine p_const 735 rfl rfl ?_
  refine p_iadd (z := i + 1) 736 rfl rfl (w32_id ⟨(by omega), (by omega)⟩) ?_
  refine p_iald (w := (L:Int)) (z := a1) 737 rfl rfl t1 l1 (by omega) (by omega) w1 ?_
  refine p_callv (le := [some (.inr (.inr 2)), some (.inl a1)]) (as := [.inr (.inr 2), .inl a1]) (rest := []) 740 0 0 rc rs rfl rfl (Nat.le_of_ble_eq_true rfl) rfl (Nat.le_of_ble_eq_true rfl) rfl rfl (Nat.le_of_ble_eq_true rfl) rfl (Nat.le_of_ble_eq_true rfl) rfl (Nat.zero_le _) (Nat.zero_le _) rfl rfl (tg_2 S) ?_
  refine x_sent S (inv_S V) a1 (fun r1 p1 => ?_)
  show Wp (d + 33) rc rs M_L_law 740 [some (.inr (.inr sc)), some (.inr (.inr 2)), some (.inr (.inr 66)), some (.inl i)] [.inl r1] h _
  refine p_aload 741 rfl rfl rfl ?_
  refine p_aload 742 rfl rfl rfl ?_
  refine p_iload 743 rfl rfl rfl ?_
  refine p_const 744 rfl rfl ?_
  refine p_iadd (z := i + 1) 745 rfl rfl (w32_id ⟨(by omega), (by omega)⟩) ?_
  refine p_iald (w := (L:Int)) (z := a1) 746 rfl rfl t1 l1 (by omega) (by omega) w1 ?_
  refine p_callv (le := [some (.inr (.inr 66)), some (.inl a1)]) (as := [.inr (.inr 66), .inl a1]) (rest := [.inl r1]) 749 0 0 rc rs rfl rfl (Nat.le_of_ble_eq_true rfl) rfl (Nat.le_of_ble_eq_true rfl) rfl rfl (Nat.le_of_ble_eq_true rfl) rfl (Nat.le_of_ble_eq_true rfl) rfl (Nat.zero_le _) (Nat.zero_le _) rfl rfl (tg_66 S) ?_
  refine m_sent S (inv_S V) a1 (fun r2 p2 => ?_)
  show Wp (d + 33) rc rs M_L_law 749 [some (.inr (.inr sc)), some (.inr (.inr 2)), some (.inr (.inr 66)), some (.inl i)] [.inl r2, .inl r1] h _
  refine p_ic_eq 752 1087 rfl rfl rfl (fun c3 => ?_) (fun c3 => ?_)
  · skip
    -- leaf 1: loop 1087 [some (.inr (.inr sc)), some (.inr (.inr 2)), some (.inr (.inr 66)), some (.inl i)] st=[] h=h 
    exact K _ V (Sc.rf h) S
  · skip
    refine p_const 753 rfl rfl ?_
    refine p_zret rfl rfl (by decide) ?_
    -- leaf 2: answer [.inl 0] h=h 
    exact absurd (p1.trans p2.symm) c3
set_option maxRecDepth 100000 in
theorem lw_heard (hL : L ≤ 3072) (A : ScA h sc L) (i0 : 0 ≤ i) (i6 : i + 6 ≤ L) (S : Shape h) (V : Inv h) (w1 : gv h sc (i + 1) = a1) (K : ∀ h', Inv h' → Sc h h' → Shape h' → Wp (d + 33) rc rs M_L_law 1087 [some (.inr (.inr sc)), some (.inr (.inr 2)), some (.inr (.inr 66)), some (.inl i)] [] h' q) : Wp (d + 33) rc rs M_L_law 873 [some (.inr (.inr sc)), some (.inr (.inr 2)), some (.inr (.inr 66)), some (.inl i)] [] h q := by
  obtain ⟨esc, t1, l1⟩ := id A
  refine p_aload 874 rfl rfl rfl ?_
  refine p_aload 875 rfl rfl rfl ?_
  refine p_iload 876 rfl rfl rfl ?_
  refine p_const 877 rfl rfl ?_
  refine p_iadd (z := i + 1) 878 rfl rfl (w32_id ⟨(by omega), (by omega)⟩) ?_
  refine p_iald (w := (L:Int)) (z := a1) 879 rfl rfl t1 l1 (by omega) (by omega) w1 ?_
  refine p_callv (le := [some (.inr (.inr 2)), some (.inl a1)]) (as := [.inr (.inr 2), .inl a1]) (rest := []) 882 0 0 rc rs rfl rfl (Nat.le_of_ble_eq_true rfl) rfl (Nat.le_of_ble_eq_true rfl) rfl rfl (Nat.le_of_ble_eq_true rfl) rfl (Nat.le_of_ble_eq_true rfl) rfl (Nat.zero_le _) (Nat.zero_le _) rfl rfl (tg_2 S) ?_
  refine x_heard S (inv_L V) a1 (fun r1 p1 => ?_)
  show Wp (d + 33) rc rs M_L_law 882 [some (.inr (.inr sc)), some (.inr (.inr 2)), some (.inr (.inr 66)), some (.inl i)] [.inl r1] h _
  refine p_aload 883 rfl rfl rfl ?_
  refine p_aload 884 rfl rfl rfl ?_
  refine p_iload 885 rfl rfl rfl ?_
  refine p_const 886 rfl rfl ?_
  refine p_iadd (z := i + 1) 887 rfl rfl (w32_id ⟨(by omega), (by omega)⟩) ?_
  refine p_iald (w := (L:Int)) (z := a1) 888 rfl rfl t1 l1 (by omega) (by omega) w1 ?_
  refine p_callv (le := [some (.inr (.inr 66)), some (.inl a1)]) (as := [.inr (.inr 66), .inl a1]) (rest := [.inl r1]) 891 0 0 rc rs rfl rfl (Nat.le_of_ble_eq_true rfl) rfl (Nat.le_of_ble_eq_true rfl) rfl rfl (Nat.le_of_ble_eq_true rfl) rfl (Nat.le_of_ble_eq_true rfl) rfl (Nat.zero_le _) (Nat.zero_le _) rfl rfl (tg_66 S) ?_
  refine m_heard S (inv_L V) a1 (fun r2 p2 => ?_)
  show Wp (d + 33) rc rs M_L_law 891 [some (.inr (.inr sc)), some (.inr (.inr 2)), some (.inr (.inr 66)), some (.inl i)] [.inl r2, .inl r1] h _
  refine p_ic_eq 894 1087 rfl rfl rfl (fun c3 => ?_) (fun c3 => ?_)
  · skip
    -- leaf 1: loop 1087 [some (.inr (.inr sc)), some (.inr (.inr 2)), some (.inr (.inr 66)), some (.inl i)] st=[] h=h 
    exact K _ V (Sc.rf h) S
  · skip
    refine p_const 895 rfl rfl ?_
    refine p_zret rfl rfl (by decide) ?_
    -- leaf 2: answer [.inl 0] h=h 
    exact absurd (p1.trans p2.symm) c3
set_option maxRecDepth 100000 in
theorem lw_changed (hL : L ≤ 3072) (A : ScA h sc L) (i0 : 0 ≤ i) (i6 : i + 6 ≤ L) (S : Shape h) (V : Inv h) (w1 : gv h sc (i + 1) = a1) (K : ∀ h', Inv h' → Sc h h' → Shape h' → Wp (d + 33) rc rs M_L_law 1087 [some (.inr (.inr sc)), some (.inr (.inr 2)), some (.inr (.inr 66)), some (.inl i)] [] h' q) : Wp (d + 33) rc rs M_L_law 1041 [some (.inr (.inr sc)), some (.inr (.inr 2)), some (.inr (.inr 66)), some (.inl i)] [] h q := by
  obtain ⟨esc, t1, l1⟩ := id A
  refine p_aload 1042 rfl rfl rfl ?_
  refine p_aload 1043 rfl rfl rfl ?_
  refine p_iload 1044 rfl rfl rfl ?_
  refine p_const 1045 rfl rfl ?_
  refine p_iadd (z := i + 1) 1046 rfl rfl (w32_id ⟨(by omega), (by omega)⟩) ?_
  refine p_iald (w := (L:Int)) (z := a1) 1047 rfl rfl t1 l1 (by omega) (by omega) w1 ?_
  refine p_callv (le := [some (.inr (.inr 2)), some (.inl a1)]) (as := [.inr (.inr 2), .inl a1]) (rest := []) 1050 0 0 rc rs rfl rfl (Nat.le_of_ble_eq_true rfl) rfl (Nat.le_of_ble_eq_true rfl) rfl rfl (Nat.le_of_ble_eq_true rfl) rfl (Nat.le_of_ble_eq_true rfl) rfl (Nat.zero_le _) (Nat.zero_le _) rfl rfl (tg_2 S) ?_
  refine x_changed S (inv_C V) a1 (fun r1 p1 => ?_)
  show Wp (d + 33) rc rs M_L_law 1050 [some (.inr (.inr sc)), some (.inr (.inr 2)), some (.inr (.inr 66)), some (.inl i)] [.inl r1] h _
  refine p_aload 1051 rfl rfl rfl ?_
  refine p_aload 1052 rfl rfl rfl ?_
  refine p_iload 1053 rfl rfl rfl ?_
  refine p_const 1054 rfl rfl ?_
  refine p_iadd (z := i + 1) 1055 rfl rfl (w32_id ⟨(by omega), (by omega)⟩) ?_
  refine p_iald (w := (L:Int)) (z := a1) 1056 rfl rfl t1 l1 (by omega) (by omega) w1 ?_
  refine p_callv (le := [some (.inr (.inr 66)), some (.inl a1)]) (as := [.inr (.inr 66), .inl a1]) (rest := [.inl r1]) 1059 0 0 rc rs rfl rfl (Nat.le_of_ble_eq_true rfl) rfl (Nat.le_of_ble_eq_true rfl) rfl rfl (Nat.le_of_ble_eq_true rfl) rfl (Nat.le_of_ble_eq_true rfl) rfl (Nat.zero_le _) (Nat.zero_le _) rfl rfl (tg_66 S) ?_
  refine m_changed S (inv_C V) a1 (fun r2 p2 => ?_)
  show Wp (d + 33) rc rs M_L_law 1059 [some (.inr (.inr sc)), some (.inr (.inr 2)), some (.inr (.inr 66)), some (.inl i)] [.inl r2, .inl r1] h _
  refine p_ic_eq 1062 1087 rfl rfl rfl (fun c3 => ?_) (fun c3 => ?_)
  · skip
    -- leaf 1: loop 1087 [some (.inr (.inr sc)), some (.inr (.inr 2)), some (.inr (.inr 66)), some (.inl i)] st=[] h=h 
    exact K _ V (Sc.rf h) S
  · skip
    refine p_const 1063 rfl rfl ?_
    refine p_zret rfl rfl (by decide) ?_
    -- leaf 2: answer [.inl 0] h=h 
    exact absurd (p1.trans p2.symm) c3
set_option maxRecDepth 100000 in
theorem lw_along (hL : L ≤ 3072) (A : ScA h sc L) (i0 : 0 ≤ i) (i6 : i + 6 ≤ L) (S : Shape h) (V : Inv h) (w1 : gv h sc (i + 1) = a1) (w2 : gv h sc (i + 2) = a2) (K : ∀ h', Inv h' → Sc h h' → Shape h' → Wp (d + 33) rc rs M_L_law 1087 [some (.inr (.inr sc)), some (.inr (.inr 2)), some (.inr (.inr 66)), some (.inl i)] [] h' q) : Wp (d + 33) rc rs M_L_law 840 [some (.inr (.inr sc)), some (.inr (.inr 2)), some (.inr (.inr 66)), some (.inl i)] [] h q := by
  obtain ⟨esc, t1, l1⟩ := id A
  refine p_aload 841 rfl rfl rfl ?_
  refine p_aload 842 rfl rfl rfl ?_
  refine p_iload 843 rfl rfl rfl ?_
  refine p_const 844 rfl rfl ?_
  refine p_iadd (z := i + 1) 845 rfl rfl (w32_id ⟨(by omega), (by omega)⟩) ?_
  refine p_iald (w := (L:Int)) (z := a1) 846 rfl rfl t1 l1 (by omega) (by omega) w1 ?_
  refine p_aload 847 rfl rfl rfl ?_
  refine p_iload 848 rfl rfl rfl ?_
  refine p_const 849 rfl rfl ?_
  refine p_iadd (z := i + 2) 850 rfl rfl (w32_id ⟨(by omega), (by omega)⟩) ?_
  refine p_iald (w := (L:Int)) (z := a2) 851 rfl rfl t1 l1 (by omega) (by omega) w2 ?_
  refine p_callv (le := [some (.inr (.inr 2)), some (.inl a1), some (.inl a2)]) (as := [.inr (.inr 2), .inl a1, .inl a2]) (rest := []) 854 0 0 rc rs rfl rfl (Nat.le_of_ble_eq_true rfl) rfl (Nat.le_of_ble_eq_true rfl) rfl rfl (Nat.le_of_ble_eq_true rfl) rfl (Nat.le_of_ble_eq_true rfl) rfl (Nat.zero_le _) (Nat.zero_le _) rfl rfl (tg_2 S) ?_
  refine x_along S (inv_L V) a1 a2 (fun r1 p1 => ?_)
  show Wp (d + 33) rc rs M_L_law 854 [some (.inr (.inr sc)), some (.inr (.inr 2)), some (.inr (.inr 66)), some (.inl i)] [.inl r1] h _
  refine p_aload 855 rfl rfl rfl ?_
  refine p_aload 856 rfl rfl rfl ?_
  refine p_iload 857 rfl rfl rfl ?_
  refine p_const 858 rfl rfl ?_
  refine p_iadd (z := i + 1) 859 rfl rfl (w32_id ⟨(by omega), (by omega)⟩) ?_
  refine p_iald (w := (L:Int)) (z := a1) 860 rfl rfl t1 l1 (by omega) (by omega) w1 ?_
  refine p_aload 861 rfl rfl rfl ?_
  refine p_iload 862 rfl rfl rfl ?_
  refine p_const 863 rfl rfl ?_
  refine p_iadd (z := i + 2) 864 rfl rfl (w32_id ⟨(by omega), (by omega)⟩) ?_
  refine p_iald (w := (L:Int)) (z := a2) 865 rfl rfl t1 l1 (by omega) (by omega) w2 ?_
  refine p_callv (le := [some (.inr (.inr 66)), some (.inl a1), some (.inl a2)]) (as := [.inr (.inr 66), .inl a1, .inl a2]) (rest := [.inl r1]) 868 0 0 rc rs rfl rfl (Nat.le_of_ble_eq_true rfl) rfl (Nat.le_of_ble_eq_true rfl) rfl rfl (Nat.le_of_ble_eq_true rfl) rfl (Nat.le_of_ble_eq_true rfl) rfl (Nat.zero_le _) (Nat.zero_le _) rfl rfl (tg_66 S) ?_
  refine m_along S (inv_L V) a1 a2 (fun r2 p2 => ?_)
  show Wp (d + 33) rc rs M_L_law 868 [some (.inr (.inr sc)), some (.inr (.inr 2)), some (.inr (.inr 66)), some (.inl i)] [.inl r2, .inl r1] h _
  refine p_ic_eq 871 1087 rfl rfl rfl (fun c3 => ?_) (fun c3 => ?_)
  · skip
    -- leaf 1: loop 1087 [some (.inr (.inr sc)), some (.inr (.inr 2)), some (.inr (.inr 66)), some (.inl i)] st=[] h=h 
    exact K _ V (Sc.rf h) S
  · skip
    refine p_const 872 rfl rfl ?_
    refine p_zret rfl rfl (by decide) ?_
    -- leaf 2: answer [.inl 0] h=h 
    exact absurd (along_same p1 p2) c3
set_option maxRecDepth 100000 in
theorem lw_flown (hL : L ≤ 3072) (A : ScA h sc L) (i0 : 0 ≤ i) (i6 : i + 6 ≤ L) (S : Shape h) (V : Inv h) (w1 : gv h sc (i + 1) = a1) (w2 : gv h sc (i + 2) = a2) (w3 : gv h sc (i + 3) = a3) (K : ∀ h', Inv h' → Sc h h' → Shape h' → Wp (d + 33) rc rs M_L_law 1087 [some (.inr (.inr sc)), some (.inr (.inr 2)), some (.inr (.inr 66)), some (.inl i)] [] h' q) : Wp (d + 33) rc rs M_L_law 896 [some (.inr (.inr sc)), some (.inr (.inr 2)), some (.inr (.inr 66)), some (.inl i)] [] h q := by
  obtain ⟨esc, t1, l1⟩ := id A
  refine p_aload 897 rfl rfl rfl ?_
  refine p_aload 898 rfl rfl rfl ?_
  refine p_iload 899 rfl rfl rfl ?_
  refine p_const 900 rfl rfl ?_
  refine p_iadd (z := i + 1) 901 rfl rfl (w32_id ⟨(by omega), (by omega)⟩) ?_
  refine p_iald (w := (L:Int)) (z := a1) 902 rfl rfl t1 l1 (by omega) (by omega) w1 ?_
  refine p_aload 903 rfl rfl rfl ?_
  refine p_iload 904 rfl rfl rfl ?_
  refine p_const 905 rfl rfl ?_
  refine p_iadd (z := i + 2) 906 rfl rfl (w32_id ⟨(by omega), (by omega)⟩) ?_
  refine p_iald (w := (L:Int)) (z := a2) 907 rfl rfl t1 l1 (by omega) (by omega) w2 ?_
  refine p_aload 908 rfl rfl rfl ?_
  refine p_iload 909 rfl rfl rfl ?_
  refine p_const 910 rfl rfl ?_
  refine p_iadd (z := i + 3) 911 rfl rfl (w32_id ⟨(by omega), (by omega)⟩) ?_
  refine p_iald (w := (L:Int)) (z := a3) 912 rfl rfl t1 l1 (by omega) (by omega) w3 ?_
  refine p_callv (le := [some (.inr (.inr 2)), some (.inl a1), some (.inl a2), some (.inl a3)]) (as := [.inr (.inr 2), .inl a1, .inl a2, .inl a3]) (rest := []) 915 0 0 rc rs rfl rfl (Nat.le_of_ble_eq_true rfl) rfl (Nat.le_of_ble_eq_true rfl) rfl rfl (Nat.le_of_ble_eq_true rfl) rfl (Nat.le_of_ble_eq_true rfl) rfl (Nat.zero_le _) (Nat.zero_le _) rfl rfl (tg_2 S) ?_
  refine x_flown S (inv_A V) a1 a2 a3 (fun r1 y1 p1 S1 => ?_)
  show Wp (d + 33) rc rs M_L_law 915 [some (.inr (.inr sc)), some (.inr (.inr 2)), some (.inr (.inr 66)), some (.inl i)] [.inl r1] y1 _
  obtain ⟨s1, fm⟩ := flown_mid V p1
  have t1 : tg y1 sc = 100 := (A.of s1).2.1
  have l1 : ln y1 sc = L := (A.of s1).2.2
  have u1 : gv y1 sc (i + 1) = a1 := (A.val s1 _).trans w1
  have u2 : gv y1 sc (i + 2) = a2 := (A.val s1 _).trans w2
  have u3 : gv y1 sc (i + 3) = a3 := (A.val s1 _).trans w3
  refine p_aload 916 rfl rfl rfl ?_
  refine p_aload 917 rfl rfl rfl ?_
  refine p_iload 918 rfl rfl rfl ?_
  refine p_const 919 rfl rfl ?_
  refine p_iadd (z := i + 1) 920 rfl rfl (w32_id ⟨(by omega), (by omega)⟩) ?_
  refine p_iald (w := (L:Int)) (z := a1) 921 rfl rfl t1 l1 (by omega) (by omega) u1 ?_
  refine p_aload 922 rfl rfl rfl ?_
  refine p_iload 923 rfl rfl rfl ?_
  refine p_const 924 rfl rfl ?_
  refine p_iadd (z := i + 2) 925 rfl rfl (w32_id ⟨(by omega), (by omega)⟩) ?_
  refine p_iald (w := (L:Int)) (z := a2) 926 rfl rfl t1 l1 (by omega) (by omega) u2 ?_
  refine p_aload 927 rfl rfl rfl ?_
  refine p_iload 928 rfl rfl rfl ?_
  refine p_const 929 rfl rfl ?_
  refine p_iadd (z := i + 3) 930 rfl rfl (w32_id ⟨(by omega), (by omega)⟩) ?_
  refine p_iald (w := (L:Int)) (z := a3) 931 rfl rfl t1 l1 (by omega) (by omega) u3 ?_
  refine p_callv (le := [some (.inr (.inr 66)), some (.inl a1), some (.inl a2), some (.inl a3)]) (as := [.inr (.inr 66), .inl a1, .inl a2, .inl a3]) (rest := [.inl r1]) 934 0 0 rc rs rfl rfl (Nat.le_of_ble_eq_true rfl) rfl (Nat.le_of_ble_eq_true rfl) rfl rfl (Nat.le_of_ble_eq_true rfl) rfl (Nat.le_of_ble_eq_true rfl) rfl (Nat.zero_le _) (Nat.zero_le _) rfl rfl (tg_66 S1) ?_
  refine m_flown S1 fm a1 a2 a3 (fun r2 y2 p2 S2 => ?_)
  show Wp (d + 33) rc rs M_L_law 934 [some (.inr (.inr sc)), some (.inr (.inr 2)), some (.inr (.inr 66)), some (.inl i)] [.inl r2, .inl r1] y2 _
  refine p_ic_eq 937 1087 rfl rfl rfl (fun c3 => ?_) (fun c3 => ?_)
  · skip
    -- leaf 1: loop 1087 [some (.inr (.inr sc)), some (.inr (.inr 2)), some (.inr (.inr 66)), some (.inl i)] st=[] h=y2 
    obtain ⟨_, V2, s2⟩ := flown_same2 V p1 p2
    exact K _ V2 s2 S2
  · skip
    refine p_const 938 rfl rfl ?_
    refine p_zret rfl rfl (by decide) ?_
    -- leaf 2: answer [.inl 0] h=y2 
    exact absurd (flown_same2 V p1 p2).1 c3
set_option maxRecDepth 100000 in
theorem lw_annul (hL : L ≤ 3072) (A : ScA h sc L) (i0 : 0 ≤ i) (i6 : i + 6 ≤ L) (S : Shape h) (V : Inv h) (w1 : gv h sc (i + 1) = a1) (K : ∀ h', Inv h' → Sc h h' → Shape h' → Wp (d + 33) rc rs M_L_law 1087 [some (.inr (.inr sc)), some (.inr (.inr 2)), some (.inr (.inr 66)), some (.inl i)] [] h' q) : Wp (d + 33) rc rs M_L_law 939 [some (.inr (.inr sc)), some (.inr (.inr 2)), some (.inr (.inr 66)), some (.inl i)] [] h q := by
  obtain ⟨esc, t1, l1⟩ := id A
  refine p_aload 940 rfl rfl rfl ?_
  refine p_aload 941 rfl rfl rfl ?_
  refine p_iload 942 rfl rfl rfl ?_
  refine p_const 943 rfl rfl ?_
  refine p_iadd (z := i + 1) 944 rfl rfl (w32_id ⟨(by omega), (by omega)⟩) ?_
  refine p_iald (w := (L:Int)) (z := a1) 945 rfl rfl t1 l1 (by omega) (by omega) w1 ?_
  refine p_callv (le := [some (.inr (.inr 2)), some (.inl a1)]) (as := [.inr (.inr 2), .inl a1]) (rest := []) 948 0 0 rc rs rfl rfl (Nat.le_of_ble_eq_true rfl) rfl (Nat.le_of_ble_eq_true rfl) rfl rfl (Nat.le_of_ble_eq_true rfl) rfl (Nat.le_of_ble_eq_true rfl) rfl (Nat.zero_le _) (Nat.zero_le _) rfl rfl (tg_2 S) ?_
  refine x_annul S (inv_A V) a1 (fun r1 y1 p1 S1 => ?_)
  show Wp (d + 33) rc rs M_L_law 948 [some (.inr (.inr sc)), some (.inr (.inr 2)), some (.inr (.inr 66)), some (.inl i)] [.inl r1] y1 _
  obtain ⟨s1, fm⟩ := annul_mid V p1
  have t1 : tg y1 sc = 100 := (A.of s1).2.1
  have l1 : ln y1 sc = L := (A.of s1).2.2
  have u1 : gv y1 sc (i + 1) = a1 := (A.val s1 _).trans w1
  refine p_aload 949 rfl rfl rfl ?_
  refine p_aload 950 rfl rfl rfl ?_
  refine p_iload 951 rfl rfl rfl ?_
  refine p_const 952 rfl rfl ?_
  refine p_iadd (z := i + 1) 953 rfl rfl (w32_id ⟨(by omega), (by omega)⟩) ?_
  refine p_iald (w := (L:Int)) (z := a1) 954 rfl rfl t1 l1 (by omega) (by omega) u1 ?_
  refine p_callv (le := [some (.inr (.inr 66)), some (.inl a1)]) (as := [.inr (.inr 66), .inl a1]) (rest := [.inl r1]) 957 0 0 rc rs rfl rfl (Nat.le_of_ble_eq_true rfl) rfl (Nat.le_of_ble_eq_true rfl) rfl rfl (Nat.le_of_ble_eq_true rfl) rfl (Nat.le_of_ble_eq_true rfl) rfl (Nat.zero_le _) (Nat.zero_le _) rfl rfl (tg_66 S1) ?_
  refine m_annul S1 fm a1 (fun r2 y2 p2 S2 => ?_)
  show Wp (d + 33) rc rs M_L_law 957 [some (.inr (.inr sc)), some (.inr (.inr 2)), some (.inr (.inr 66)), some (.inl i)] [.inl r2, .inl r1] y2 _
  refine p_ic_eq 960 1087 rfl rfl rfl (fun c3 => ?_) (fun c3 => ?_)
  · skip
    -- leaf 1: loop 1087 [some (.inr (.inr sc)), some (.inr (.inr 2)), some (.inr (.inr 66)), some (.inl i)] st=[] h=y2 
    obtain ⟨_, V2, s2⟩ := annul_same2 V p1 p2
    exact K _ V2 s2 S2
  · skip
    refine p_const 961 rfl rfl ?_
    refine p_zret rfl rfl (by decide) ?_
    -- leaf 2: answer [.inl 0] h=y2 
    exact absurd (annul_same2 V p1 p2).1 c3
set_option maxRecDepth 100000 in
theorem lw_as (hL : L ≤ 3072) (A : ScA h sc L) (i0 : 0 ≤ i) (i6 : i + 6 ≤ L) (S : Shape h) (V : Inv h) (w1 : gv h sc (i + 1) = a1) (K : ∀ h', Inv h' → Sc h h' → Shape h' → Wp (d + 33) rc rs M_L_law 1087 [some (.inr (.inr sc)), some (.inr (.inr 2)), some (.inr (.inr 66)), some (.inl i)] [] h' q) : Wp (d + 33) rc rs M_L_law 962 [some (.inr (.inr sc)), some (.inr (.inr 2)), some (.inr (.inr 66)), some (.inl i)] [] h q := by
  obtain ⟨esc, t1, l1⟩ := id A
  refine p_aload 963 rfl rfl rfl ?_
  refine p_aload 964 rfl rfl rfl ?_
  refine p_iload 965 rfl rfl rfl ?_
  refine p_const 966 rfl rfl ?_
  refine p_iadd (z := i + 1) 967 rfl rfl (w32_id ⟨(by omega), (by omega)⟩) ?_
  refine p_iald (w := (L:Int)) (z := a1) 968 rfl rfl t1 l1 (by omega) (by omega) w1 ?_
  refine p_callv (le := [some (.inr (.inr 2)), some (.inl a1)]) (as := [.inr (.inr 2), .inl a1]) (rest := []) 971 0 0 rc rs rfl rfl (Nat.le_of_ble_eq_true rfl) rfl (Nat.le_of_ble_eq_true rfl) rfl rfl (Nat.le_of_ble_eq_true rfl) rfl (Nat.le_of_ble_eq_true rfl) rfl (Nat.zero_le _) (Nat.zero_le _) rfl rfl (tg_2 S) ?_
  refine x_as S a1 (fun r1 y1 p1 S1 => ?_)
  show Wp (d + 33) rc rs M_L_law 971 [some (.inr (.inr sc)), some (.inr (.inr 2)), some (.inr (.inr 66)), some (.inl i)] [.inl r1] y1 _
  have s1 := as_mid p1
  have t1 : tg y1 sc = 100 := (A.of s1).2.1
  have l1 : ln y1 sc = L := (A.of s1).2.2
  have u1 : gv y1 sc (i + 1) = a1 := (A.val s1 _).trans w1
  refine p_aload 972 rfl rfl rfl ?_
  refine p_aload 973 rfl rfl rfl ?_
  refine p_iload 974 rfl rfl rfl ?_
  refine p_const 975 rfl rfl ?_
  refine p_iadd (z := i + 1) 976 rfl rfl (w32_id ⟨(by omega), (by omega)⟩) ?_
  refine p_iald (w := (L:Int)) (z := a1) 977 rfl rfl t1 l1 (by omega) (by omega) u1 ?_
  refine p_callv (le := [some (.inr (.inr 66)), some (.inl a1)]) (as := [.inr (.inr 66), .inl a1]) (rest := [.inl r1]) 980 0 0 rc rs rfl rfl (Nat.le_of_ble_eq_true rfl) rfl (Nat.le_of_ble_eq_true rfl) rfl rfl (Nat.le_of_ble_eq_true rfl) rfl (Nat.le_of_ble_eq_true rfl) rfl (Nat.zero_le _) (Nat.zero_le _) rfl rfl (tg_66 S1) ?_
  refine m_as S1 a1 (fun r2 y2 p2 S2 => ?_)
  show Wp (d + 33) rc rs M_L_law 980 [some (.inr (.inr sc)), some (.inr (.inr 2)), some (.inr (.inr 66)), some (.inl i)] [.inl r2, .inl r1] y2 _
  refine p_ic_eq 983 1087 rfl rfl rfl (fun c3 => ?_) (fun c3 => ?_)
  · skip
    -- leaf 1: loop 1087 [some (.inr (.inr sc)), some (.inr (.inr 2)), some (.inr (.inr 66)), some (.inl i)] st=[] h=y2 
    obtain ⟨_, V2, s2⟩ := as_same2 V p1 p2
    exact K _ V2 s2 S2
  · skip
    refine p_const 984 rfl rfl ?_
    refine p_zret rfl rfl (by decide) ?_
    -- leaf 2: answer [.inl 0] h=y2 
    exact absurd (as_same2 V p1 p2).1 c3
set_option maxRecDepth 100000 in
theorem lw_all (hL : L ≤ 3072) (A : ScA h sc L) (i0 : 0 ≤ i) (i6 : i + 6 ≤ L) (S : Shape h) (V : Inv h) (w1 : gv h sc (i + 1) = a1) (K : ∀ h', Inv h' → Sc h h' → Shape h' → Wp (d + 33) rc rs M_L_law 1087 [some (.inr (.inr sc)), some (.inr (.inr 2)), some (.inr (.inr 66)), some (.inl i)] [] h' q) : Wp (d + 33) rc rs M_L_law 1064 [some (.inr (.inr sc)), some (.inr (.inr 2)), some (.inr (.inr 66)), some (.inl i)] [] h q := by
  obtain ⟨esc, t1, l1⟩ := id A
  refine p_aload 1065 rfl rfl rfl ?_
  refine p_aload 1066 rfl rfl rfl ?_
  refine p_iload 1067 rfl rfl rfl ?_
  refine p_const 1068 rfl rfl ?_
  refine p_iadd (z := i + 1) 1069 rfl rfl (w32_id ⟨(by omega), (by omega)⟩) ?_
  refine p_iald (w := (L:Int)) (z := a1) 1070 rfl rfl t1 l1 (by omega) (by omega) w1 ?_
  refine p_callv (le := [some (.inr (.inr 2)), some (.inl a1)]) (as := [.inr (.inr 2), .inl a1]) (rest := []) 1073 0 0 rc rs rfl rfl (Nat.le_of_ble_eq_true rfl) rfl (Nat.le_of_ble_eq_true rfl) rfl rfl (Nat.le_of_ble_eq_true rfl) rfl (Nat.le_of_ble_eq_true rfl) rfl (Nat.zero_le _) (Nat.zero_le _) rfl rfl (tg_2 S) ?_
  refine x_all S (inv_A V) a1 ?_
  show Wp (d + 33) rc rs M_L_law 1073 [some (.inr (.inr sc)), some (.inr (.inr 2)), some (.inr (.inr 66)), some (.inl i)] [.inl (if a1 = 0 then gv h 18 5 else if a1 = 1 then nw h else if a1 = 2 then gv h 2 10 else if a1 = 3 then cntF h (nw h) (gv h 18 5).toNat else -1)] h _
  refine p_aload 1074 rfl rfl rfl ?_
  refine p_aload 1075 rfl rfl rfl ?_
  refine p_iload 1076 rfl rfl rfl ?_
  refine p_const 1077 rfl rfl ?_
  refine p_iadd (z := i + 1) 1078 rfl rfl (w32_id ⟨(by omega), (by omega)⟩) ?_
  refine p_iald (w := (L:Int)) (z := a1) 1079 rfl rfl t1 l1 (by omega) (by omega) w1 ?_
  refine p_callv (le := [some (.inr (.inr 66)), some (.inl a1), none, none]) (as := [.inr (.inr 66), .inl a1]) (rest := [.inl (if a1 = 0 then gv h 18 5 else if a1 = 1 then nw h else if a1 = 2 then gv h 2 10 else if a1 = 3 then cntF h (nw h) (gv h 18 5).toNat else -1)]) 1082 0 0 rc rs rfl rfl (Nat.le_of_ble_eq_true rfl) rfl (Nat.le_of_ble_eq_true rfl) rfl rfl (Nat.le_of_ble_eq_true rfl) rfl (Nat.le_of_ble_eq_true rfl) rfl (Nat.zero_le _) (Nat.zero_le _) rfl rfl (tg_66 S) ?_
  refine m_all S (inv_A V) a1 ?_
  show Wp (d + 33) rc rs M_L_law 1082 [some (.inr (.inr sc)), some (.inr (.inr 2)), some (.inr (.inr 66)), some (.inl i)] [.inl (if a1 = 0 then gv h 18 5 else if a1 = 1 then nw h else if a1 = 2 then gv h 66 59 else if a1 = 3 then cntF h (nw h) (gv h 18 5).toNat else -1), .inl (if a1 = 0 then gv h 18 5 else if a1 = 1 then nw h else if a1 = 2 then gv h 2 10 else if a1 = 3 then cntF h (nw h) (gv h 18 5).toNat else -1)] h _
  refine p_ic_eq 1085 1087 rfl rfl rfl (fun c3 => ?_) (fun c3 => ?_)
  · skip
    -- leaf 1: loop 1087 [some (.inr (.inr sc)), some (.inr (.inr 2)), some (.inr (.inr 66)), some (.inl i)] st=[] h=h 
    exact K _ V (Sc.rf h) S
  · skip
    refine p_const 1086 rfl rfl ?_
    refine p_zret rfl rfl (by decide) ?_
    -- leaf 2: answer [.inl 0] h=h 
    exact absurd (by rw [(inv_M V).2.1]) c3
set_option maxRecDepth 100000 in
theorem lw_letter (hL : L ≤ 3072) (A : ScA h sc L) (i0 : 0 ≤ i) (i6 : i + 6 ≤ L) (S : Shape h) (V : Inv h) (w1 : gv h sc (i + 1) = a1) (w2 : gv h sc (i + 2) = a2) (w3 : gv h sc (i + 3) = a3) (K : ∀ h', Inv h' → Sc h h' → Shape h' → Wp (d + 33) rc rs M_L_law 1087 [some (.inr (.inr sc)), some (.inr (.inr 2)), some (.inr (.inr 66)), some (.inl i)] [] h' q) : Wp (d + 33) rc rs M_L_law 540 [some (.inr (.inr sc)), some (.inr (.inr 2)), some (.inr (.inr 66)), some (.inl i)] [] h q := by
  obtain ⟨esc, t1, l1⟩ := id A
  refine p_aload 541 rfl rfl rfl ?_
  refine p_aload 542 rfl rfl rfl ?_
  refine p_iload 543 rfl rfl rfl ?_
  refine p_const 544 rfl rfl ?_
  refine p_iadd (z := i + 1) 545 rfl rfl (w32_id ⟨(by omega), (by omega)⟩) ?_
  refine p_iald (w := (L:Int)) (z := a1) 546 rfl rfl t1 l1 (by omega) (by omega) w1 ?_
  refine p_aload 547 rfl rfl rfl ?_
  refine p_iload 548 rfl rfl rfl ?_
  refine p_const 549 rfl rfl ?_
  refine p_iadd (z := i + 2) 550 rfl rfl (w32_id ⟨(by omega), (by omega)⟩) ?_
  refine p_iald (w := (L:Int)) (z := a2) 551 rfl rfl t1 l1 (by omega) (by omega) w2 ?_
  refine p_if_eq 554 558 rfl rfl rfl (fun c1 => ?_) (fun c1 => ?_)
  · skip
    refine p_const 559 rfl rfl ?_
    refine p_aload 560 rfl rfl rfl ?_
    refine p_iload 561 rfl rfl rfl ?_
    refine p_const 562 rfl rfl ?_
    refine p_iadd (z := i + 3) 563 rfl rfl (w32_id ⟨(by omega), (by omega)⟩) ?_
    refine p_iald (w := (L:Int)) (z := a3) 564 rfl rfl t1 l1 (by omega) (by omega) w3 ?_
    refine p_callv (le := [some (.inr (.inr 2)), some (.inl a1), some (.inl 0), some (.inl a3), none, none, none]) (as := [.inr (.inr 2), .inl a1, .inl 0, .inl a3]) (rest := []) 567 0 0 rc rs rfl rfl (Nat.le_of_ble_eq_true rfl) rfl (Nat.le_of_ble_eq_true rfl) rfl rfl (Nat.le_of_ble_eq_true rfl) rfl (Nat.le_of_ble_eq_true rfl) rfl (Nat.zero_le _) (Nat.zero_le _) rfl rfl (tg_2 S) ?_
    refine x_letter S (inv_A V) a1 0 a3 (fun r2 p2 => ?_)
    show Wp (d + 33) rc rs M_L_law 567 [some (.inr (.inr sc)), some (.inr (.inr 2)), some (.inr (.inr 66)), some (.inl i)] [.inl r2] h _
    refine p_aload 568 rfl rfl rfl ?_
    refine p_aload 569 rfl rfl rfl ?_
    refine p_iload 570 rfl rfl rfl ?_
    refine p_const 571 rfl rfl ?_
    refine p_iadd (z := i + 1) 572 rfl rfl (w32_id ⟨(by omega), (by omega)⟩) ?_
    refine p_iald (w := (L:Int)) (z := a1) 573 rfl rfl t1 l1 (by omega) (by omega) w1 ?_
    refine p_aload 574 rfl rfl rfl ?_
    refine p_iload 575 rfl rfl rfl ?_
    refine p_const 576 rfl rfl ?_
    refine p_iadd (z := i + 2) 577 rfl rfl (w32_id ⟨(by omega), (by omega)⟩) ?_
    refine p_iald (w := (L:Int)) (z := a2) 578 rfl rfl t1 l1 (by omega) (by omega) w2 ?_
    refine p_if_eq 581 585 rfl rfl rfl (fun c3 => ?_) (fun c3 => ?_)
    · skip
      refine p_const 586 rfl rfl ?_
      refine p_aload 587 rfl rfl rfl ?_
      refine p_iload 588 rfl rfl rfl ?_
      refine p_const 589 rfl rfl ?_
      refine p_iadd (z := i + 3) 590 rfl rfl (w32_id ⟨(by omega), (by omega)⟩) ?_
      refine p_iald (w := (L:Int)) (z := a3) 591 rfl rfl t1 l1 (by omega) (by omega) w3 ?_
      refine p_callv (le := [some (.inr (.inr 66)), some (.inl a1), some (.inl 0), some (.inl a3), none, none, none, none, none, none]) (as := [.inr (.inr 66), .inl a1, .inl 0, .inl a3]) (rest := [.inl r2]) 594 0 0 rc rs rfl rfl (Nat.le_of_ble_eq_true rfl) rfl (Nat.le_of_ble_eq_true rfl) rfl rfl (Nat.le_of_ble_eq_true rfl) rfl (Nat.le_of_ble_eq_true rfl) rfl (Nat.zero_le _) (Nat.zero_le _) rfl rfl (tg_66 S) ?_
      refine m_letter S (inv_A V) a1 0 a3 (fun r4 p4 => ?_)
      show Wp (d + 33) rc rs M_L_law 594 [some (.inr (.inr sc)), some (.inr (.inr 2)), some (.inr (.inr 66)), some (.inl i)] [.inl r4, .inl r2] h _
      refine p_ic_eq 597 1087 rfl rfl rfl (fun c5 => ?_) (fun c5 => ?_)
      · skip
        -- leaf 1: loop 1087 [some (.inr (.inr sc)), some (.inr (.inr 2)), some (.inr (.inr 66)), some (.inl i)] st=[] h=h 
        first | exact K _ V (Sc.rf h) S | (exfalso; omega)
      · skip
        refine p_const 598 rfl rfl ?_
        refine p_zret rfl rfl (by decide) ?_
        -- leaf 2: answer [.inl 0] h=h 
        exact absurd (letter_same p2 p4) c5
    · skip
      refine p_const 582 rfl rfl ?_
      refine p_goto 586 rfl rfl ?_
      refine p_aload 587 rfl rfl rfl ?_
      refine p_iload 588 rfl rfl rfl ?_
      refine p_const 589 rfl rfl ?_
      refine p_iadd (z := i + 3) 590 rfl rfl (w32_id ⟨(by omega), (by omega)⟩) ?_
      refine p_iald (w := (L:Int)) (z := a3) 591 rfl rfl t1 l1 (by omega) (by omega) w3 ?_
      refine p_callv (le := [some (.inr (.inr 66)), some (.inl a1), some (.inl 1), some (.inl a3), none, none, none, none, none, none]) (as := [.inr (.inr 66), .inl a1, .inl 1, .inl a3]) (rest := [.inl r2]) 594 0 0 rc rs rfl rfl (Nat.le_of_ble_eq_true rfl) rfl (Nat.le_of_ble_eq_true rfl) rfl rfl (Nat.le_of_ble_eq_true rfl) rfl (Nat.le_of_ble_eq_true rfl) rfl (Nat.zero_le _) (Nat.zero_le _) rfl rfl (tg_66 S) ?_
      refine m_letter S (inv_A V) a1 1 a3 (fun r6 p6 => ?_)
      show Wp (d + 33) rc rs M_L_law 594 [some (.inr (.inr sc)), some (.inr (.inr 2)), some (.inr (.inr 66)), some (.inl i)] [.inl r6, .inl r2] h _
      refine p_ic_eq 597 1087 rfl rfl rfl (fun c7 => ?_) (fun c7 => ?_)
      · skip
        -- leaf 3: loop 1087 [some (.inr (.inr sc)), some (.inr (.inr 2)), some (.inr (.inr 66)), some (.inl i)] st=[] h=h 
        first | exact K _ V (Sc.rf h) S | (exfalso; omega)
      · skip
        refine p_const 598 rfl rfl ?_
        refine p_zret rfl rfl (by decide) ?_
        -- leaf 4: answer [.inl 0] h=h 
        first | exact K _ V (Sc.rf h) S | (exfalso; omega)
  · skip
    refine p_const 555 rfl rfl ?_
    refine p_goto 559 rfl rfl ?_
    refine p_aload 560 rfl rfl rfl ?_
    refine p_iload 561 rfl rfl rfl ?_
    refine p_const 562 rfl rfl ?_
    refine p_iadd (z := i + 3) 563 rfl rfl (w32_id ⟨(by omega), (by omega)⟩) ?_
    refine p_iald (w := (L:Int)) (z := a3) 564 rfl rfl t1 l1 (by omega) (by omega) w3 ?_
    refine p_callv (le := [some (.inr (.inr 2)), some (.inl a1), some (.inl 1), some (.inl a3), none, none, none]) (as := [.inr (.inr 2), .inl a1, .inl 1, .inl a3]) (rest := []) 567 0 0 rc rs rfl rfl (Nat.le_of_ble_eq_true rfl) rfl (Nat.le_of_ble_eq_true rfl) rfl rfl (Nat.le_of_ble_eq_true rfl) rfl (Nat.le_of_ble_eq_true rfl) rfl (Nat.zero_le _) (Nat.zero_le _) rfl rfl (tg_2 S) ?_
    refine x_letter S (inv_A V) a1 1 a3 (fun r8 p8 => ?_)
    show Wp (d + 33) rc rs M_L_law 567 [some (.inr (.inr sc)), some (.inr (.inr 2)), some (.inr (.inr 66)), some (.inl i)] [.inl r8] h _
    refine p_aload 568 rfl rfl rfl ?_
    refine p_aload 569 rfl rfl rfl ?_
    refine p_iload 570 rfl rfl rfl ?_
    refine p_const 571 rfl rfl ?_
    refine p_iadd (z := i + 1) 572 rfl rfl (w32_id ⟨(by omega), (by omega)⟩) ?_
    refine p_iald (w := (L:Int)) (z := a1) 573 rfl rfl t1 l1 (by omega) (by omega) w1 ?_
    refine p_aload 574 rfl rfl rfl ?_
    refine p_iload 575 rfl rfl rfl ?_
    refine p_const 576 rfl rfl ?_
    refine p_iadd (z := i + 2) 577 rfl rfl (w32_id ⟨(by omega), (by omega)⟩) ?_
    refine p_iald (w := (L:Int)) (z := a2) 578 rfl rfl t1 l1 (by omega) (by omega) w2 ?_
    refine p_if_eq 581 585 rfl rfl rfl (fun c9 => ?_) (fun c9 => ?_)
    · skip
      refine p_const 586 rfl rfl ?_
      refine p_aload 587 rfl rfl rfl ?_
      refine p_iload 588 rfl rfl rfl ?_
      refine p_const 589 rfl rfl ?_
      refine p_iadd (z := i + 3) 590 rfl rfl (w32_id ⟨(by omega), (by omega)⟩) ?_
      refine p_iald (w := (L:Int)) (z := a3) 591 rfl rfl t1 l1 (by omega) (by omega) w3 ?_
      refine p_callv (le := [some (.inr (.inr 66)), some (.inl a1), some (.inl 0), some (.inl a3), none, none, none, none, none, none]) (as := [.inr (.inr 66), .inl a1, .inl 0, .inl a3]) (rest := [.inl r8]) 594 0 0 rc rs rfl rfl (Nat.le_of_ble_eq_true rfl) rfl (Nat.le_of_ble_eq_true rfl) rfl rfl (Nat.le_of_ble_eq_true rfl) rfl (Nat.le_of_ble_eq_true rfl) rfl (Nat.zero_le _) (Nat.zero_le _) rfl rfl (tg_66 S) ?_
      refine m_letter S (inv_A V) a1 0 a3 (fun r10 p10 => ?_)
      show Wp (d + 33) rc rs M_L_law 594 [some (.inr (.inr sc)), some (.inr (.inr 2)), some (.inr (.inr 66)), some (.inl i)] [.inl r10, .inl r8] h _
      refine p_ic_eq 597 1087 rfl rfl rfl (fun c11 => ?_) (fun c11 => ?_)
      · skip
        -- leaf 5: loop 1087 [some (.inr (.inr sc)), some (.inr (.inr 2)), some (.inr (.inr 66)), some (.inl i)] st=[] h=h 
        first | exact K _ V (Sc.rf h) S | (exfalso; omega)
      · skip
        refine p_const 598 rfl rfl ?_
        refine p_zret rfl rfl (by decide) ?_
        -- leaf 6: answer [.inl 0] h=h 
        first | exact K _ V (Sc.rf h) S | (exfalso; omega)
    · skip
      refine p_const 582 rfl rfl ?_
      refine p_goto 586 rfl rfl ?_
      refine p_aload 587 rfl rfl rfl ?_
      refine p_iload 588 rfl rfl rfl ?_
      refine p_const 589 rfl rfl ?_
      refine p_iadd (z := i + 3) 590 rfl rfl (w32_id ⟨(by omega), (by omega)⟩) ?_
      refine p_iald (w := (L:Int)) (z := a3) 591 rfl rfl t1 l1 (by omega) (by omega) w3 ?_
      refine p_callv (le := [some (.inr (.inr 66)), some (.inl a1), some (.inl 1), some (.inl a3), none, none, none, none, none, none]) (as := [.inr (.inr 66), .inl a1, .inl 1, .inl a3]) (rest := [.inl r8]) 594 0 0 rc rs rfl rfl (Nat.le_of_ble_eq_true rfl) rfl (Nat.le_of_ble_eq_true rfl) rfl rfl (Nat.le_of_ble_eq_true rfl) rfl (Nat.le_of_ble_eq_true rfl) rfl (Nat.zero_le _) (Nat.zero_le _) rfl rfl (tg_66 S) ?_
      refine m_letter S (inv_A V) a1 1 a3 (fun r12 p12 => ?_)
      show Wp (d + 33) rc rs M_L_law 594 [some (.inr (.inr sc)), some (.inr (.inr 2)), some (.inr (.inr 66)), some (.inl i)] [.inl r12, .inl r8] h _
      refine p_ic_eq 597 1087 rfl rfl rfl (fun c13 => ?_) (fun c13 => ?_)
      · skip
        -- leaf 7: loop 1087 [some (.inr (.inr sc)), some (.inr (.inr 2)), some (.inr (.inr 66)), some (.inl i)] st=[] h=h 
        first | exact K _ V (Sc.rf h) S | (exfalso; omega)
      · skip
        refine p_const 598 rfl rfl ?_
        refine p_zret rfl rfl (by decide) ?_
        -- leaf 8: answer [.inl 0] h=h 
        exact absurd (letter_same p8 p12) c13
end LAW

