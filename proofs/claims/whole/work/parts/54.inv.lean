/-! THE INVARIANT -/
/-- a street: the class's fields s and cells c against the reference's row w, n houses -/
def iv_S (s c w : Nat → Int32) (n : Nat) : Prop :=
  s 1 = nI n ∧ s 3 = w 3 ∧ s 4 = w 4 ∧ s 5 = w 5 ∧ s 6 = w 0 ∧ s 7 = w 1 ∧ s 8 = w 2 ∧ (0 ≤ w 2 ∧ w 2 ≤ 150) ∧ (n = 0 → s 2 = -1 ∧ w 6 = 0) ∧ (0 < n → s 2 = w 6) ∧
  ∀ h : Nat, h < n → (c (h * 6) = w (7 + h) ∧ 0 ≤ w (7 + h) ∧ w (7 + h) ≤ 9) ∧ (c (h * 6 + 1) = w (23 + h) ∧ 0 ≤ w (23 + h) ∧ w (23 + h) ≤ 9) ∧ (c (h * 6 + 2) = w (55 + h) ∧ 0 ≤ w (55 + h) ∧ w (55 + h) ≤ 9999) ∧ (c (h * 6 + 3) = w (39 + h) ∧ 0 ≤ w (39 + h) ∧ w (39 + h) ≤ 9) ∧ (c (h * 6 + 4) = w (87 + h) ∧ 0 ≤ w (87 + h) ∧ w (87 + h) ≤ 1) ∧ (c (h * 6 + 5) = w (71 + h) - 1 ∧ 0 ≤ w (71 + h) ∧ w (71 + h) ≤ 16)
/-- a piece of the law's code: the class's c, the reference's o and a -/
def iv_code (c o a : Int32) : Prop := (o = 0 ∧ c = a ∧ 0 ≤ a ∧ a ≤ 9999) ∨ (∃ j : Nat, j < 10 ∧ o = 1 ∧ a = nI j ∧ c = -100 - nI (7 + j)) ∨ (o = 2 ∧ c = -43) ∨ (o = 3 ∧ c = -45) ∨ (o = 4 ∧ c = -42) ∨ (o = 5 ∧ c = -47) ∨ (o = 6 ∧ c = -60) ∨ (o = 7 ∧ c = -61) ∨ (o = 8 ∧ c = -62) ∨ (o = 9 ∧ c = -2) ∨ (o = 10 ∧ c = -3) ∨ (o = 11 ∧ c = -4)
/-- what lies on the stack: 0 a number, 1 yes or no, 2 a number that isn't 0 -/
def ty_1 (o a : Int32) (t : List Nat) : Option (List Nat) :=
  if o = 0 then (if t.length < 48 then some ((if a = 0 then 0 else 2) :: t) else none)
  else if o = 1 then (if t.length < 48 then some (0 :: t) else none)
  else if o = 9 then (match t with
    | 1 :: r => some (1 :: r)
    | _ => none)
  else if o = 10 ∨ o = 11 then (match t with
    | 1 :: 1 :: r => some (1 :: r)
    | _ => none)
  else if o = 5 then (match t with
    | 2 :: _ :: r => some (0 :: r)
    | _ => none)
  else if o = 2 ∨ o = 3 ∨ o = 4 then (match t with
    | _ :: _ :: r => some (0 :: r)
    | _ => none)
  else (match t with
    | _ :: _ :: r => some (1 :: r)
    | _ => none)
def ty_run (o a : Nat → Int32) : Nat → Nat → List Nat → Option (List Nat)
  | _, 0, t => some t
  | i, k + 1, t => (ty_1 (o i) (a i) t).bind (ty_run o a (i + 1) k)
def iv_line (c r : nd_Mem) (C l : Nat) : Prop := ∃ w f p t : Nat, w < 3 ∧ f ≤ p ∧ p ≤ t ∧ t ≤ C ∧ c 5 (4 * l) = nI w ∧ r 68 l = nI w ∧ c 5 (4 * l + 1) = nI f ∧ r 69 l = nI f ∧ c 5 (4 * l + 2) = nI p ∧ r 70 l = nI p ∧ c 5 (4 * l + 3) = nI t ∧ r 71 l = nI t ∧ (∃ x : Nat, ty_run (r 72) (r 73) f (p - f) [] = some [x]) ∧ (p = t ∨ ty_run (r 72) (r 73) p (t - p) [] = some [1])
def iv_law (c r : nd_Mem) : Prop := ∃ L C : Nat, L ≤ 16 ∧ C ≤ 400 ∧ c 4 1 = nI (4 * L) ∧ c 6 1 = nI C ∧ r 67 0 = nI L ∧ (∀ l : Nat, l < L → iv_line c r C l) ∧ ∀ i : Nat, i < C → iv_code (c 7 i) (r 72 i) (r 73 i)
def iv_deed (c r : nd_Mem) (n j : Nat) : Prop := c 9 (4 * j) = r 75 (4 * j) ∧ ∃ k who : Nat, k < 6 ∧ who < n ∧ c 9 (4 * j + 1) = nI (k + 1) ∧ r 75 (4 * j + 1) = nI k ∧ c 9 (4 * j + 2) = nI who ∧ r 75 (4 * j + 2) = nI who ∧ (k = 4 → c 9 (4 * j + 3) = r 75 (4 * j + 3) ∧ 1 ≤ r 75 (4 * j + 3) ∧ r 75 (4 * j + 3) ≤ 999)
def iv_plan (c r : nd_Mem) (n : Nat) : Prop := ∃ P : Nat, P ≤ 16 ∧ c 8 1 = nI (4 * P) ∧ r 60 31 = nI P ∧ ∀ j : Nat, j < P → iv_deed c r n j
def iv_feud (c r : nd_Mem) (n : Nat) : Prop := c 3 4 = r 60 33 ∧ ∀ h : Nat, h < 16 → ∃ m : Nat, m < 2 ^ n ∧ c 10 h = nI m ∧ r 76 h = nI m
def iv_side (c r : nd_Mem) : Prop := c 3 6 = r 60 35 ∧ ∃ m : Nat, m < 65536 ∧ c 3 5 = nI m ∧ ∀ h : Nat, h < 16 → r 77 h = if m.testBit h = true then 1 else 0
def q1_ (c r : nd_Mem) : Prop := iv_row 12 0 1 (c 13 1) (c 14) (r 60 40) (r 81)
def q2_ (c r : nd_Mem) : Prop := iv_coup (c 15 1) (c 16) (r 60 45) (r 85) (r 86) (r 87)
def q3_ (c r : nd_Mem) : Prop := iv_row 10 0 60 (c 17 1) (c 18) (r 60 50) (r 89)
def q4_ (c r : nd_Mem) : Prop := iv_pers (c 19 1) (c 20) (r 60 54) (r 92) (r 93)
def q5_ (c r : nd_Mem) : Prop := iv_row 10 1 60 (c 21 1) (c 22) (r 60 61) (r 96)
def q6_ (c r : nd_Mem) : Prop := ∀ i : Nat, i < 10 → iv_want (c 23 i) (r 95 i)
def q7_ (c r : nd_Mem) (n : Nat) : Prop := iv_S (c 1) (c 2) (r 61) n
def q8_ (c r : nd_Mem) : Prop := ∀ i : Nat, i < 600 → c 11 i = r 64 i
/-- all that an image holds -/
def iv_K (c r : nd_Mem) (n : Nat) : Prop := (n ≤ 16 ∧ r 60 6 = nI n) ∧ q1_ c r ∧ q2_ c r ∧ q3_ c r ∧ q4_ c r ∧ q5_ c r ∧ q6_ c r ∧ q7_ c r n ∧ q8_ c r ∧ iv_law c r ∧ iv_plan c r n ∧ iv_feud c r n ∧ iv_side c r
/-- the reference's rows as an image holds them -/
def iv_img (m : Nat → Int32) : nd_Mem := fun i k =>
  if i = 61 then m k else
  if i = 60 then (if k = 6 then m 103 else if k = 31 then m 104 else if k = 33 then m 105 else if k = 35 then m 106 else if k = 40 then m 107 else if k = 45 then m 108 else if k = 50 then m 109 else if k = 54 then m 110 else if k = 61 then m 111 else 0) else
  if i = 76 then m (112 + 2 * k) else if i = 77 then m (113 + 2 * k) else
  if i = 92 then m (144 + 2 * k) else if i = 93 then m (145 + 2 * k) else
  if i = 81 then m (172 + k) else
  if i = 89 then m (184 + 3 * k) else if i = 95 then m (185 + 3 * k) else if i = 96 then m (186 + 3 * k) else
  if i = 85 then m (214 + 3 * k) else if i = 86 then m (215 + 3 * k) else if i = 87 then m (216 + 3 * k) else
  if i = 75 then m (241 + k) else if i = 64 then m (305 + k) else
  if i = 67 then m 905 else if i = 68 then m (906 + 4 * k) else if i = 69 then m (907 + 4 * k) else if i = 70 then m (908 + 4 * k) else if i = 71 then m (909 + 4 * k) else
  if i = 72 then m (970 + 2 * k) else if i = 73 then m (971 + 2 * k) else 0
def iv_pic (σ : nd_Mem) : Prop := (σ 0 10 = 0 ∧ σ 60 66 = 0) ∨ (σ 0 10 = 1 ∧ σ 60 66 = 1 ∧ ∃ n : Nat, iv_K (fun i => σ (100 + i)) (iv_img (σ 99)) n)
def iv_past (σ : nd_Mem) (n : Nat) : Prop := ∃ m x : Nat, m ≤ 6 ∧ x < 6 ∧ σ 24 1 = nI m ∧ σ 60 3 = nI m ∧ σ 24 2 = nI x ∧ ∀ j : Nat, j < m → iv_S (σ (26 + 2 * ((x + 6 - m + j) % 6))) (σ (27 + 2 * ((x + 6 - m + j) % 6))) (fun k => σ 62 (103 * j + k)) n
def iv_tape (σ : nd_Mem) : Prop := σ 38 3 = σ 60 29 ∧ σ 38 4 = σ 60 30 ∧ ∃ m : Nat, m ≤ 400 ∧ σ 38 2 = nI m ∧ σ 60 9 = nI m ∧ ∀ i : Nat, i < m → σ 47 i = σ 65 i ∧ iv_bt (σ 65 i) 0 255
def iv_worth : List Nat := [0, 1, 1, 1, 2, 2, 0, 3, 3, 1, 1, 1, 0, 4, 3, 3, 3, 2, 2]
def iv_words : List Nat := [32, 103, 111, 101, 115, 32, 98, 101, 97, 114, 115, 32, 98, 114, 105, 110, 103, 115, 32, 119, 104, 101, 110, 32, 111, 114, 32, 97, 110, 100, 32, 110, 111, 116, 32, 103, 105, 114, 108, 115, 32, 98, 111, 121, 115, 32, 99, 111, 117, 112, 108, 101, 115, 32, 100, 111, 119, 114, 121, 32, 119, 105, 100, 111, 119, 32, 110, 117, 109, 98, 101, 114, 32, 115, 105, 100, 101, 32, 106, 117, 103, 32, 103, 97, 112, 115, 32, 103, 101, 110, 101, 114, 97, 116, 105, 111, 110, 32, 105, 110, 32, 103, 105, 114, 108, 32, 98, 111, 121, 32, 104, 111, 117, 115, 101, 32, 99, 111, 109, 102, 111, 114, 116, 32, 103, 105, 118, 101, 32, 102, 101, 117, 100, 32]
def iv_fix (σ : nd_Mem) : Prop := (∀ i : Nat, i < 19 → σ 59 i = nI (iv_worth.getD i 0)) ∧ (∀ i : Nat, i < 134 → σ 66 i = nI (iv_words.getD i 0)) ∧ σ 51 3 = 0 ∧ σ 55 3 = 1 ∧ σ 60 5 = 0
def iv_I (n : Nat) (σ : nd_Mem) : Prop := iv_K σ σ n ∧ iv_past σ n ∧ iv_tape σ ∧ iv_pic σ ∧ iv_fix σ
def op_ (C M : nd_Mem → nd_Res) : Prop := ∀ (σ : nd_Mem) (n : Nat), iv_I n σ → ∃ (r : Int32) (τ ρ : nd_Mem) (n' : Nat), C σ = some (r, τ) ∧ M τ = some (r, ρ) ∧ iv_I n' ρ ∧ ρ 0 10 = σ 0 10
