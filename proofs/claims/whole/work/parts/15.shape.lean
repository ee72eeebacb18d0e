def is_Row (sh : List nd_S) (b a n : Nat) : Prop := sh[b]? = some (.inl (3, [(fun _ => .ref a), Value.int])) ∧ sh[a]? = some (.inr (.inl n))
def is_Street (sh : List nd_S) (b a : Nat) : Prop := sh[b]? = some (.inl (5, [(fun _ => .ref a), Value.int, Value.int, Value.int, Value.int, Value.int, Value.int, Value.int, Value.int])) ∧ sh[a]? = some (.inr (.inl 96))
def is_Rules (sh : List nd_S) (b : Nat) : Prop := sh[b]? = some (.inl (4, [(fun _ => .ref (b + 1)), (fun _ => .ref (b + 3)), (fun _ => .ref (b + 5)), (fun _ => .ref (b + 7)), Value.int, Value.int, Value.int])) ∧ is_Row sh (b + 1) (b + 2) 64 ∧ is_Row sh (b + 3) (b + 4) 400 ∧ is_Row sh (b + 5) (b + 6) 64 ∧ sh[b + 7]? = some (.inr (.inl 16))
def is_Told (sh : List nd_S) (b : Nat) : Prop := sh[b]? = some (.inl (7, [(fun _ => .ref (b + 1)), (fun _ => .ref (b + 3)), (fun _ => .ref (b + 5)), (fun _ => .ref (b + 7)), (fun _ => .ref (b + 9)), (fun _ => .ref (b + 11))])) ∧ is_Row sh (b + 1) (b + 2) 12 ∧ is_Row sh (b + 3) (b + 4) 6 ∧ is_Row sh (b + 5) (b + 6) 10 ∧ is_Row sh (b + 7) (b + 8) 14 ∧ is_Row sh (b + 9) (b + 10) 10 ∧ sh[b + 11]? = some (.inr (.inl 10))
def is_Walk (sh : List nd_S) (b a st sa : Nat) : Prop := sh[b]? = some (.inl (8, [(fun _ => .ref st), (fun _ => .ref 3), (fun _ => .ref 11), Value.int, (fun _ => .ref a), Value.int])) ∧ sh[a]? = some (.inr (.inl 48)) ∧ is_Street sh st sa ∧ is_Rules sh 3 ∧ sh[11]? = some (.inr (.inl 600))
def nd_kept : Nat → Option Nat := va_up (va_up (va_up (va_up (va_up (va_up (fun _ => none) 0 (some 26)) 1 (some 28)) 2 (some 30)) 3 (some 32)) 4 (some 34)) 5 (some 36)
/-- the cells behind the two constructors -/
def nd_SH : List nd_S := [.inl (9, [(fun _ => .ref 1), (fun _ => .ref 3), (fun _ => .ref 11), (fun _ => .ref 12), (fun _ => .ref 24), (fun _ => .ref 38), (fun _ => .ref 51), (fun _ => .ref 53), (fun _ => .ref 55), (fun _ => .ref 57), (fun x => if x = 0 then .null else .ref 100)]),
  .inl (5, [(fun _ => .ref 2), Value.int, Value.int, Value.int, Value.int, Value.int, Value.int, Value.int, Value.int]),
  .inr (.inl 96),
  .inl (4, [(fun _ => .ref 4), (fun _ => .ref 6), (fun _ => .ref 8), (fun _ => .ref 10), Value.int, Value.int, Value.int]),
  .inl (3, [(fun _ => .ref 5), Value.int]),
  .inr (.inl 64),
  .inl (3, [(fun _ => .ref 7), Value.int]),
  .inr (.inl 400),
  .inl (3, [(fun _ => .ref 9), Value.int]),
  .inr (.inl 64),
  .inr (.inl 16),
  .inr (.inl 600),
  .inl (7, [(fun _ => .ref 13), (fun _ => .ref 15), (fun _ => .ref 17), (fun _ => .ref 19), (fun _ => .ref 21), (fun _ => .ref 23)]),
  .inl (3, [(fun _ => .ref 14), Value.int]),
  .inr (.inl 12),
  .inl (3, [(fun _ => .ref 16), Value.int]),
  .inr (.inl 6),
  .inl (3, [(fun _ => .ref 18), Value.int]),
  .inr (.inl 10),
  .inl (3, [(fun _ => .ref 20), Value.int]),
  .inr (.inl 14),
  .inl (3, [(fun _ => .ref 22), Value.int]),
  .inr (.inl 10),
  .inr (.inl 10),
  .inl (0, [(fun _ => .ref 25), Value.int, Value.int]),
  .inr (.inr (6, nd_kept)),
  .inl (5, [(fun _ => .ref 27), Value.int, Value.int, Value.int, Value.int, Value.int, Value.int, Value.int, Value.int]),
  .inr (.inl 96),
  .inl (5, [(fun _ => .ref 29), Value.int, Value.int, Value.int, Value.int, Value.int, Value.int, Value.int, Value.int]),
  .inr (.inl 96),
  .inl (5, [(fun _ => .ref 31), Value.int, Value.int, Value.int, Value.int, Value.int, Value.int, Value.int, Value.int]),
  .inr (.inl 96),
  .inl (5, [(fun _ => .ref 33), Value.int, Value.int, Value.int, Value.int, Value.int, Value.int, Value.int, Value.int]),
  .inr (.inl 96),
  .inl (5, [(fun _ => .ref 35), Value.int, Value.int, Value.int, Value.int, Value.int, Value.int, Value.int, Value.int]),
  .inr (.inl 96),
  .inl (5, [(fun _ => .ref 37), Value.int, Value.int, Value.int, Value.int, Value.int, Value.int, Value.int, Value.int]),
  .inr (.inl 96),
  .inl (2, [(fun _ => .ref 39), (fun _ => .ref 47), Value.int, Value.int, Value.int, (fun x => .ref (1000001 + x.toNatClampNeg)), Value.int, (fun _ => .ref 48), (fun _ => .ref 49), (fun _ => .ref 50), Value.int, Value.int, Value.int, Value.int, Value.int]),
  .inl (4, [(fun _ => .ref 40), (fun _ => .ref 42), (fun _ => .ref 44), (fun _ => .ref 46), Value.int, Value.int, Value.int]),
  .inl (3, [(fun _ => .ref 41), Value.int]),
  .inr (.inl 64),
  .inl (3, [(fun _ => .ref 43), Value.int]),
  .inr (.inl 400),
  .inl (3, [(fun _ => .ref 45), Value.int]),
  .inr (.inl 64),
  .inr (.inl 16),
  .inr (.inl 400),
  .inr (.inl 401),
  .inr (.inl 401),
  .inr (.inl 401),
  .inl (8, [(fun _ => .ref 1), (fun _ => .ref 3), (fun _ => .ref 11), Value.int, (fun _ => .ref 52), Value.int]),
  .inr (.inl 48),
  .inl (5, [(fun _ => .ref 54), Value.int, Value.int, Value.int, Value.int, Value.int, Value.int, Value.int, Value.int]),
  .inr (.inl 96),
  .inl (8, [(fun _ => .ref 53), (fun _ => .ref 3), (fun _ => .ref 11), Value.int, (fun _ => .ref 56), Value.int]),
  .inr (.inl 48),
  .inl (6, [(fun _ => .ref 12), (fun _ => .ref 58), (fun _ => .ref 59)]),
  .inr (.inl 196),
  .inr (.inl 19),
  .inl (10, [Value.int, (fun _ => .ref 61), (fun _ => .ref 62), Value.int, (fun _ => .ref 63), Value.int, Value.int, (fun _ => .ref 64), (fun _ => .ref 65), Value.int, Value.int, Value.int, Value.int, Value.int, (fun _ => .ref 66), (fun _ => .ref 67), (fun _ => .ref 68), (fun _ => .ref 69), (fun _ => .ref 70), (fun _ => .ref 71), (fun _ => .ref 72), (fun _ => .ref 73), Value.int, Value.int, Value.int, (fun _ => .ref 74), Value.int, Value.int, Value.int, Value.int, Value.int, Value.int, (fun _ => .ref 75), Value.int, (fun _ => .ref 76), Value.int, (fun _ => .ref 77), (fun _ => .ref 78), (fun _ => .ref 79), (fun _ => .ref 80), Value.int, (fun _ => .ref 81), (fun _ => .ref 82), (fun _ => .ref 83), (fun _ => .ref 84), Value.int, (fun _ => .ref 85), (fun _ => .ref 86), (fun _ => .ref 87), (fun _ => .ref 88), Value.int, (fun _ => .ref 89), (fun _ => .ref 90), (fun _ => .ref 91), Value.int, (fun _ => .ref 92), (fun _ => .ref 93), (fun _ => .ref 94), Value.int, Value.int, (fun _ => .ref 95), Value.int, (fun _ => .ref 96), (fun _ => .ref 97), (fun _ => .ref 98), Value.int, Value.int, Value.int, (fun _ => .ref 99)]),
  .inr (.inl 103),
  .inr (.inl 618),
  .inr (.inl 103),
  .inr (.inl 600),
  .inr (.inl 400),
  .inr (.inl 134),
  .inr (.inl 2),
  .inr (.inl 48),
  .inr (.inl 48),
  .inr (.inl 48),
  .inr (.inl 48),
  .inr (.inl 1200),
  .inr (.inl 1200),
  .inr (.inl 40),
  .inr (.inl 128),
  .inr (.inl 32),
  .inr (.inl 32),
  .inr (.inl 10),
  .inr (.inl 420),
  .inr (.inl 16),
  .inr (.inl 12),
  .inr (.inl 9),
  .inr (.inl 9),
  .inr (.inl 10),
  .inr (.inl 9),
  .inr (.inl 9),
  .inr (.inl 9),
  .inr (.inl 4608),
  .inr (.inl 10),
  .inr (.inl 10),
  .inr (.inl 4096),
  .inr (.inl 14),
  .inr (.inl 14),
  .inr (.inl 196),
  .inr (.inl 10),
  .inr (.inl 10),
  .inr (.inl 10),
  .inr (.inl 262144),
  .inr (.inl 2400)]
theorem sh_0 (t : List nd_S) : (nd_SH ++ t)[0]? = some (.inl (9, [(fun _ => .ref 1), (fun _ => .ref 3), (fun _ => .ref 11), (fun _ => .ref 12), (fun _ => .ref 24), (fun _ => .ref 38), (fun _ => .ref 51), (fun _ => .ref 53), (fun _ => .ref 55), (fun _ => .ref 57), (fun x => if x = 0 then .null else .ref 100)])) := rfl
theorem sh_1 (t : List nd_S) : (nd_SH ++ t)[1]? = some (.inl (5, [(fun _ => .ref 2), Value.int, Value.int, Value.int, Value.int, Value.int, Value.int, Value.int, Value.int])) := rfl
theorem sh_2 (t : List nd_S) : (nd_SH ++ t)[2]? = some (.inr (.inl 96)) := rfl
theorem sh_3 (t : List nd_S) : (nd_SH ++ t)[3]? = some (.inl (4, [(fun _ => .ref 4), (fun _ => .ref 6), (fun _ => .ref 8), (fun _ => .ref 10), Value.int, Value.int, Value.int])) := rfl
theorem sh_4 (t : List nd_S) : (nd_SH ++ t)[4]? = some (.inl (3, [(fun _ => .ref 5), Value.int])) := rfl
theorem sh_5 (t : List nd_S) : (nd_SH ++ t)[5]? = some (.inr (.inl 64)) := rfl
theorem sh_6 (t : List nd_S) : (nd_SH ++ t)[6]? = some (.inl (3, [(fun _ => .ref 7), Value.int])) := rfl
theorem sh_7 (t : List nd_S) : (nd_SH ++ t)[7]? = some (.inr (.inl 400)) := rfl
theorem sh_8 (t : List nd_S) : (nd_SH ++ t)[8]? = some (.inl (3, [(fun _ => .ref 9), Value.int])) := rfl
theorem sh_9 (t : List nd_S) : (nd_SH ++ t)[9]? = some (.inr (.inl 64)) := rfl
theorem sh_10 (t : List nd_S) : (nd_SH ++ t)[10]? = some (.inr (.inl 16)) := rfl
theorem sh_11 (t : List nd_S) : (nd_SH ++ t)[11]? = some (.inr (.inl 600)) := rfl
theorem sh_12 (t : List nd_S) : (nd_SH ++ t)[12]? = some (.inl (7, [(fun _ => .ref 13), (fun _ => .ref 15), (fun _ => .ref 17), (fun _ => .ref 19), (fun _ => .ref 21), (fun _ => .ref 23)])) := rfl
theorem sh_13 (t : List nd_S) : (nd_SH ++ t)[13]? = some (.inl (3, [(fun _ => .ref 14), Value.int])) := rfl
theorem sh_14 (t : List nd_S) : (nd_SH ++ t)[14]? = some (.inr (.inl 12)) := rfl
theorem sh_15 (t : List nd_S) : (nd_SH ++ t)[15]? = some (.inl (3, [(fun _ => .ref 16), Value.int])) := rfl
theorem sh_16 (t : List nd_S) : (nd_SH ++ t)[16]? = some (.inr (.inl 6)) := rfl
theorem sh_17 (t : List nd_S) : (nd_SH ++ t)[17]? = some (.inl (3, [(fun _ => .ref 18), Value.int])) := rfl
theorem sh_18 (t : List nd_S) : (nd_SH ++ t)[18]? = some (.inr (.inl 10)) := rfl
theorem sh_19 (t : List nd_S) : (nd_SH ++ t)[19]? = some (.inl (3, [(fun _ => .ref 20), Value.int])) := rfl
theorem sh_20 (t : List nd_S) : (nd_SH ++ t)[20]? = some (.inr (.inl 14)) := rfl
theorem sh_21 (t : List nd_S) : (nd_SH ++ t)[21]? = some (.inl (3, [(fun _ => .ref 22), Value.int])) := rfl
theorem sh_22 (t : List nd_S) : (nd_SH ++ t)[22]? = some (.inr (.inl 10)) := rfl
theorem sh_23 (t : List nd_S) : (nd_SH ++ t)[23]? = some (.inr (.inl 10)) := rfl
theorem sh_24 (t : List nd_S) : (nd_SH ++ t)[24]? = some (.inl (0, [(fun _ => .ref 25), Value.int, Value.int])) := rfl
theorem sh_25 (t : List nd_S) : (nd_SH ++ t)[25]? = some (.inr (.inr (6, nd_kept))) := rfl
theorem sh_26 (t : List nd_S) : (nd_SH ++ t)[26]? = some (.inl (5, [(fun _ => .ref 27), Value.int, Value.int, Value.int, Value.int, Value.int, Value.int, Value.int, Value.int])) := rfl
theorem sh_27 (t : List nd_S) : (nd_SH ++ t)[27]? = some (.inr (.inl 96)) := rfl
theorem sh_28 (t : List nd_S) : (nd_SH ++ t)[28]? = some (.inl (5, [(fun _ => .ref 29), Value.int, Value.int, Value.int, Value.int, Value.int, Value.int, Value.int, Value.int])) := rfl
theorem sh_29 (t : List nd_S) : (nd_SH ++ t)[29]? = some (.inr (.inl 96)) := rfl
theorem sh_30 (t : List nd_S) : (nd_SH ++ t)[30]? = some (.inl (5, [(fun _ => .ref 31), Value.int, Value.int, Value.int, Value.int, Value.int, Value.int, Value.int, Value.int])) := rfl
theorem sh_31 (t : List nd_S) : (nd_SH ++ t)[31]? = some (.inr (.inl 96)) := rfl
theorem sh_32 (t : List nd_S) : (nd_SH ++ t)[32]? = some (.inl (5, [(fun _ => .ref 33), Value.int, Value.int, Value.int, Value.int, Value.int, Value.int, Value.int, Value.int])) := rfl
theorem sh_33 (t : List nd_S) : (nd_SH ++ t)[33]? = some (.inr (.inl 96)) := rfl
theorem sh_34 (t : List nd_S) : (nd_SH ++ t)[34]? = some (.inl (5, [(fun _ => .ref 35), Value.int, Value.int, Value.int, Value.int, Value.int, Value.int, Value.int, Value.int])) := rfl
theorem sh_35 (t : List nd_S) : (nd_SH ++ t)[35]? = some (.inr (.inl 96)) := rfl
theorem sh_36 (t : List nd_S) : (nd_SH ++ t)[36]? = some (.inl (5, [(fun _ => .ref 37), Value.int, Value.int, Value.int, Value.int, Value.int, Value.int, Value.int, Value.int])) := rfl
theorem sh_37 (t : List nd_S) : (nd_SH ++ t)[37]? = some (.inr (.inl 96)) := rfl
theorem sh_38 (t : List nd_S) : (nd_SH ++ t)[38]? = some (.inl (2, [(fun _ => .ref 39), (fun _ => .ref 47), Value.int, Value.int, Value.int, (fun x => .ref (1000001 + x.toNatClampNeg)), Value.int, (fun _ => .ref 48), (fun _ => .ref 49), (fun _ => .ref 50), Value.int, Value.int, Value.int, Value.int, Value.int])) := rfl
theorem sh_39 (t : List nd_S) : (nd_SH ++ t)[39]? = some (.inl (4, [(fun _ => .ref 40), (fun _ => .ref 42), (fun _ => .ref 44), (fun _ => .ref 46), Value.int, Value.int, Value.int])) := rfl
theorem sh_40 (t : List nd_S) : (nd_SH ++ t)[40]? = some (.inl (3, [(fun _ => .ref 41), Value.int])) := rfl
theorem sh_41 (t : List nd_S) : (nd_SH ++ t)[41]? = some (.inr (.inl 64)) := rfl
theorem sh_42 (t : List nd_S) : (nd_SH ++ t)[42]? = some (.inl (3, [(fun _ => .ref 43), Value.int])) := rfl
theorem sh_43 (t : List nd_S) : (nd_SH ++ t)[43]? = some (.inr (.inl 400)) := rfl
theorem sh_44 (t : List nd_S) : (nd_SH ++ t)[44]? = some (.inl (3, [(fun _ => .ref 45), Value.int])) := rfl
theorem sh_45 (t : List nd_S) : (nd_SH ++ t)[45]? = some (.inr (.inl 64)) := rfl
theorem sh_46 (t : List nd_S) : (nd_SH ++ t)[46]? = some (.inr (.inl 16)) := rfl
theorem sh_47 (t : List nd_S) : (nd_SH ++ t)[47]? = some (.inr (.inl 400)) := rfl
theorem sh_48 (t : List nd_S) : (nd_SH ++ t)[48]? = some (.inr (.inl 401)) := rfl
theorem sh_49 (t : List nd_S) : (nd_SH ++ t)[49]? = some (.inr (.inl 401)) := rfl
theorem sh_50 (t : List nd_S) : (nd_SH ++ t)[50]? = some (.inr (.inl 401)) := rfl
theorem sh_51 (t : List nd_S) : (nd_SH ++ t)[51]? = some (.inl (8, [(fun _ => .ref 1), (fun _ => .ref 3), (fun _ => .ref 11), Value.int, (fun _ => .ref 52), Value.int])) := rfl
theorem sh_52 (t : List nd_S) : (nd_SH ++ t)[52]? = some (.inr (.inl 48)) := rfl
theorem sh_53 (t : List nd_S) : (nd_SH ++ t)[53]? = some (.inl (5, [(fun _ => .ref 54), Value.int, Value.int, Value.int, Value.int, Value.int, Value.int, Value.int, Value.int])) := rfl
theorem sh_54 (t : List nd_S) : (nd_SH ++ t)[54]? = some (.inr (.inl 96)) := rfl
theorem sh_55 (t : List nd_S) : (nd_SH ++ t)[55]? = some (.inl (8, [(fun _ => .ref 53), (fun _ => .ref 3), (fun _ => .ref 11), Value.int, (fun _ => .ref 56), Value.int])) := rfl
theorem sh_56 (t : List nd_S) : (nd_SH ++ t)[56]? = some (.inr (.inl 48)) := rfl
theorem sh_57 (t : List nd_S) : (nd_SH ++ t)[57]? = some (.inl (6, [(fun _ => .ref 12), (fun _ => .ref 58), (fun _ => .ref 59)])) := rfl
theorem sh_58 (t : List nd_S) : (nd_SH ++ t)[58]? = some (.inr (.inl 196)) := rfl
theorem sh_59 (t : List nd_S) : (nd_SH ++ t)[59]? = some (.inr (.inl 19)) := rfl
theorem sh_60 (t : List nd_S) : (nd_SH ++ t)[60]? = some (.inl (10, [Value.int, (fun _ => .ref 61), (fun _ => .ref 62), Value.int, (fun _ => .ref 63), Value.int, Value.int, (fun _ => .ref 64), (fun _ => .ref 65), Value.int, Value.int, Value.int, Value.int, Value.int, (fun _ => .ref 66), (fun _ => .ref 67), (fun _ => .ref 68), (fun _ => .ref 69), (fun _ => .ref 70), (fun _ => .ref 71), (fun _ => .ref 72), (fun _ => .ref 73), Value.int, Value.int, Value.int, (fun _ => .ref 74), Value.int, Value.int, Value.int, Value.int, Value.int, Value.int, (fun _ => .ref 75), Value.int, (fun _ => .ref 76), Value.int, (fun _ => .ref 77), (fun _ => .ref 78), (fun _ => .ref 79), (fun _ => .ref 80), Value.int, (fun _ => .ref 81), (fun _ => .ref 82), (fun _ => .ref 83), (fun _ => .ref 84), Value.int, (fun _ => .ref 85), (fun _ => .ref 86), (fun _ => .ref 87), (fun _ => .ref 88), Value.int, (fun _ => .ref 89), (fun _ => .ref 90), (fun _ => .ref 91), Value.int, (fun _ => .ref 92), (fun _ => .ref 93), (fun _ => .ref 94), Value.int, Value.int, (fun _ => .ref 95), Value.int, (fun _ => .ref 96), (fun _ => .ref 97), (fun _ => .ref 98), Value.int, Value.int, Value.int, (fun _ => .ref 99)])) := rfl
theorem sh_61 (t : List nd_S) : (nd_SH ++ t)[61]? = some (.inr (.inl 103)) := rfl
theorem sh_62 (t : List nd_S) : (nd_SH ++ t)[62]? = some (.inr (.inl 618)) := rfl
theorem sh_63 (t : List nd_S) : (nd_SH ++ t)[63]? = some (.inr (.inl 103)) := rfl
theorem sh_64 (t : List nd_S) : (nd_SH ++ t)[64]? = some (.inr (.inl 600)) := rfl
theorem sh_65 (t : List nd_S) : (nd_SH ++ t)[65]? = some (.inr (.inl 400)) := rfl
theorem sh_66 (t : List nd_S) : (nd_SH ++ t)[66]? = some (.inr (.inl 134)) := rfl
theorem sh_67 (t : List nd_S) : (nd_SH ++ t)[67]? = some (.inr (.inl 2)) := rfl
theorem sh_68 (t : List nd_S) : (nd_SH ++ t)[68]? = some (.inr (.inl 48)) := rfl
theorem sh_69 (t : List nd_S) : (nd_SH ++ t)[69]? = some (.inr (.inl 48)) := rfl
theorem sh_70 (t : List nd_S) : (nd_SH ++ t)[70]? = some (.inr (.inl 48)) := rfl
theorem sh_71 (t : List nd_S) : (nd_SH ++ t)[71]? = some (.inr (.inl 48)) := rfl
theorem sh_72 (t : List nd_S) : (nd_SH ++ t)[72]? = some (.inr (.inl 1200)) := rfl
theorem sh_73 (t : List nd_S) : (nd_SH ++ t)[73]? = some (.inr (.inl 1200)) := rfl
theorem sh_74 (t : List nd_S) : (nd_SH ++ t)[74]? = some (.inr (.inl 40)) := rfl
theorem sh_75 (t : List nd_S) : (nd_SH ++ t)[75]? = some (.inr (.inl 128)) := rfl
theorem sh_76 (t : List nd_S) : (nd_SH ++ t)[76]? = some (.inr (.inl 32)) := rfl
theorem sh_77 (t : List nd_S) : (nd_SH ++ t)[77]? = some (.inr (.inl 32)) := rfl
theorem sh_78 (t : List nd_S) : (nd_SH ++ t)[78]? = some (.inr (.inl 10)) := rfl
theorem sh_79 (t : List nd_S) : (nd_SH ++ t)[79]? = some (.inr (.inl 420)) := rfl
theorem sh_80 (t : List nd_S) : (nd_SH ++ t)[80]? = some (.inr (.inl 16)) := rfl
theorem sh_81 (t : List nd_S) : (nd_SH ++ t)[81]? = some (.inr (.inl 12)) := rfl
theorem sh_82 (t : List nd_S) : (nd_SH ++ t)[82]? = some (.inr (.inl 9)) := rfl
theorem sh_83 (t : List nd_S) : (nd_SH ++ t)[83]? = some (.inr (.inl 9)) := rfl
theorem sh_84 (t : List nd_S) : (nd_SH ++ t)[84]? = some (.inr (.inl 10)) := rfl
theorem sh_85 (t : List nd_S) : (nd_SH ++ t)[85]? = some (.inr (.inl 9)) := rfl
theorem sh_86 (t : List nd_S) : (nd_SH ++ t)[86]? = some (.inr (.inl 9)) := rfl
theorem sh_87 (t : List nd_S) : (nd_SH ++ t)[87]? = some (.inr (.inl 9)) := rfl
theorem sh_88 (t : List nd_S) : (nd_SH ++ t)[88]? = some (.inr (.inl 4608)) := rfl
theorem sh_89 (t : List nd_S) : (nd_SH ++ t)[89]? = some (.inr (.inl 10)) := rfl
theorem sh_90 (t : List nd_S) : (nd_SH ++ t)[90]? = some (.inr (.inl 10)) := rfl
theorem sh_91 (t : List nd_S) : (nd_SH ++ t)[91]? = some (.inr (.inl 4096)) := rfl
theorem sh_92 (t : List nd_S) : (nd_SH ++ t)[92]? = some (.inr (.inl 14)) := rfl
theorem sh_93 (t : List nd_S) : (nd_SH ++ t)[93]? = some (.inr (.inl 14)) := rfl
theorem sh_94 (t : List nd_S) : (nd_SH ++ t)[94]? = some (.inr (.inl 196)) := rfl
theorem sh_95 (t : List nd_S) : (nd_SH ++ t)[95]? = some (.inr (.inl 10)) := rfl
theorem sh_96 (t : List nd_S) : (nd_SH ++ t)[96]? = some (.inr (.inl 10)) := rfl
theorem sh_97 (t : List nd_S) : (nd_SH ++ t)[97]? = some (.inr (.inl 10)) := rfl
theorem sh_98 (t : List nd_S) : (nd_SH ++ t)[98]? = some (.inr (.inl 262144)) := rfl
theorem sh_99 (t : List nd_S) : (nd_SH ++ t)[99]? = some (.inr (.inl 2400)) := rfl
theorem is_Row_4 (t : List nd_S) : is_Row (nd_SH ++ t) 4 5 64 := ⟨sh_4 t, sh_5 t⟩
theorem is_Row_6 (t : List nd_S) : is_Row (nd_SH ++ t) 6 7 400 := ⟨sh_6 t, sh_7 t⟩
theorem is_Row_8 (t : List nd_S) : is_Row (nd_SH ++ t) 8 9 64 := ⟨sh_8 t, sh_9 t⟩
theorem is_Row_13 (t : List nd_S) : is_Row (nd_SH ++ t) 13 14 12 := ⟨sh_13 t, sh_14 t⟩
theorem is_Row_15 (t : List nd_S) : is_Row (nd_SH ++ t) 15 16 6 := ⟨sh_15 t, sh_16 t⟩
theorem is_Row_17 (t : List nd_S) : is_Row (nd_SH ++ t) 17 18 10 := ⟨sh_17 t, sh_18 t⟩
theorem is_Row_19 (t : List nd_S) : is_Row (nd_SH ++ t) 19 20 14 := ⟨sh_19 t, sh_20 t⟩
theorem is_Row_21 (t : List nd_S) : is_Row (nd_SH ++ t) 21 22 10 := ⟨sh_21 t, sh_22 t⟩
theorem is_Row_40 (t : List nd_S) : is_Row (nd_SH ++ t) 40 41 64 := ⟨sh_40 t, sh_41 t⟩
theorem is_Row_42 (t : List nd_S) : is_Row (nd_SH ++ t) 42 43 400 := ⟨sh_42 t, sh_43 t⟩
theorem is_Row_44 (t : List nd_S) : is_Row (nd_SH ++ t) 44 45 64 := ⟨sh_44 t, sh_45 t⟩
theorem is_Street_1 (t : List nd_S) : is_Street (nd_SH ++ t) 1 2 := ⟨sh_1 t, sh_2 t⟩
theorem is_Street_26 (t : List nd_S) : is_Street (nd_SH ++ t) 26 27 := ⟨sh_26 t, sh_27 t⟩
theorem is_Street_28 (t : List nd_S) : is_Street (nd_SH ++ t) 28 29 := ⟨sh_28 t, sh_29 t⟩
theorem is_Street_30 (t : List nd_S) : is_Street (nd_SH ++ t) 30 31 := ⟨sh_30 t, sh_31 t⟩
theorem is_Street_32 (t : List nd_S) : is_Street (nd_SH ++ t) 32 33 := ⟨sh_32 t, sh_33 t⟩
theorem is_Street_34 (t : List nd_S) : is_Street (nd_SH ++ t) 34 35 := ⟨sh_34 t, sh_35 t⟩
theorem is_Street_36 (t : List nd_S) : is_Street (nd_SH ++ t) 36 37 := ⟨sh_36 t, sh_37 t⟩
theorem is_Street_53 (t : List nd_S) : is_Street (nd_SH ++ t) 53 54 := ⟨sh_53 t, sh_54 t⟩
theorem is_Rules_3 (t : List nd_S) : is_Rules (nd_SH ++ t) 3 := ⟨sh_3 t, ⟨sh_4 t, sh_5 t⟩, ⟨sh_6 t, sh_7 t⟩, ⟨sh_8 t, sh_9 t⟩, sh_10 t⟩
theorem is_Rules_39 (t : List nd_S) : is_Rules (nd_SH ++ t) 39 := ⟨sh_39 t, ⟨sh_40 t, sh_41 t⟩, ⟨sh_42 t, sh_43 t⟩, ⟨sh_44 t, sh_45 t⟩, sh_46 t⟩
theorem is_Told_12 (t : List nd_S) : is_Told (nd_SH ++ t) 12 := ⟨sh_12 t, ⟨sh_13 t, sh_14 t⟩, ⟨sh_15 t, sh_16 t⟩, ⟨sh_17 t, sh_18 t⟩, ⟨sh_19 t, sh_20 t⟩, ⟨sh_21 t, sh_22 t⟩, sh_23 t⟩
theorem is_Walk_51 (t : List nd_S) : is_Walk (nd_SH ++ t) 51 52 1 2 := ⟨sh_51 t, sh_52 t, is_Street_1 t, is_Rules_3 t, sh_11 t⟩
theorem is_Walk_55 (t : List nd_S) : is_Walk (nd_SH ++ t) 55 56 53 54 := ⟨sh_55 t, sh_56 t, is_Street_53 t, is_Rules_3 t, sh_11 t⟩
theorem nd_kept_at {j : Int32} (h : ¬ (j < 0 ∨ 6 ≤ j.toNatClampNeg)) : nd_kept j.toNatClampNeg = some (26 + 2 * j.toNatClampNeg) := by
  have h1 : j.toNatClampNeg < 6 := Nat.not_le.mp (fun q => h (Or.inr q))
  generalize j.toNatClampNeg = k at h1
  rcases (show k = 0 ∨ k = 1 ∨ k = 2 ∨ k = 3 ∨ k = 4 ∨ k = 5 by omega) with rfl | rfl | rfl | rfl | rfl | rfl <;> rfl
theorem is_Kept (t : List nd_S) {j : Int32} (h : ¬ (j < 0 ∨ 6 ≤ j.toNatClampNeg)) : is_Street (nd_SH ++ t) (26 + 2 * j.toNatClampNeg) (27 + 2 * j.toNatClampNeg) := by
  have h1 : j.toNatClampNeg < 6 := Nat.not_le.mp (fun q => h (Or.inr q))
  generalize j.toNatClampNeg = k at h1
  rcases (show k = 0 ∨ k = 1 ∨ k = 2 ∨ k = 3 ∨ k = 4 ∨ k = 5 by omega) with rfl | rfl | rfl | rfl | rfl | rfl
  · exact is_Street_26 t
  · exact is_Street_28 t
  · exact is_Street_30 t
  · exact is_Street_32 t
  · exact is_Street_34 t
  · exact is_Street_36 t
