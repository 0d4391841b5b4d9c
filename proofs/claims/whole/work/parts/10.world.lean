/-! THE WORLD: 109 cells by logical numbers (0..29 the reference and its arrays, 30 the law's out, 31..63 the class and what it holds, 64 + 5 j .. the nine trees); w: addresses, classes, array classes; a state: the rows of ints, of longs, the int fields, which tree is on which shelf (8: spare). -/
abbrev Wd : Type := (Nat → Nat) × va_G × (ClassId × ClassId × ClassId × ClassId × ClassId)
abbrev St : Type := (Nat → Nat → Int32) × (Nat → Nat → Int64) × (Nat → Nat → Int32) × (Nat → Nat)
abbrev iA (σ : St) : Nat → Nat → Int32 := σ.1
abbrev jA (σ : St) : Nat → Nat → Int64 := σ.2.1
abbrev nF (σ : St) : Nat → Nat → Int32 := σ.2.2.1
abbrev tS (σ : St) : Nat → Nat := σ.2.2.2
def sI (σ : St) (a : Nat) (f : Nat → Int32) : St := (va_up σ.1 a f, σ.2.1, σ.2.2.1, σ.2.2.2)
def sJ (σ : St) (a : Nat) (f : Nat → Int64) : St := (σ.1, va_up σ.2.1 a f, σ.2.2.1, σ.2.2.2)
def sN (σ : St) (a k : Nat) (v : Int32) : St := (σ.1, σ.2.1, va_up σ.2.2.1 a (upd (σ.2.2.1 a) k v), σ.2.2.2)
def sT (σ : St) (k j : Nat) : St := (σ.1, σ.2.1, σ.2.2.1, va_up σ.2.2.2 k j)
abbrev wTys (w : Wd) : List (ClassId × FieldType) := [(w.2.2.1, .byte), (w.2.2.2.1, .int), (w.2.2.2.2.1, .long), (w.2.2.2.2.2.1, .boolean), (w.2.2.2.2.2.2, .object "LineageBench$Tree")]
def celF (w : Wd) (fi : Nat → Int32) (fj : Nat → Int64) (fn : Nat → Int32) (T : Nat → Nat) (i : Nat) : va_E := match i with
  | 0 => .inr (11, [.int (fn 0), .ref (w.1 1), .int (fn 2), .int (fn 3), .int (fn 4), .ref (w.1 2), .ref (w.1 3), .ref (w.1 4), .ref (w.1 5), .ref (w.1 6), .ref (w.1 7), .int (fn 11), .ref (w.1 8), .int (fn 13), .ref (w.1 9), .ref (w.1 10), .int (fn 16), .ref (w.1 11), .int (fn 18), .ref (w.1 12), .ref (w.1 13), .int (fn 21), .int (fn 22), .ref (w.1 14), .ref (w.1 15), .ref (w.1 16), .ref (w.1 17), .ref (w.1 18), .ref (w.1 19), .ref (w.1 20), .ref (w.1 21), .ref (w.1 22), .ref (w.1 23), .ref (w.1 24), .ref (w.1 25), .ref (w.1 26), .ref (w.1 27), .ref (w.1 28), .ref (w.1 29)])
  | 1 => .inl (w.2.2.1, 400, .inl fi)
  | 2 => .inl (w.2.2.2.1, 9, .inl fi)
  | 3 => .inl (w.2.2.2.1, 456, .inl fi)
  | 4 => .inl (w.2.2.2.1, 456, .inl fi)
  | 5 => .inl (w.2.2.2.1, 80, .inl fi)
  | 6 => .inl (w.2.2.2.1, 80, .inl fi)
  | 7 => .inl (w.2.2.2.1, 80, .inl fi)
  | 8 => .inl (w.2.2.2.1, 16, .inl fi)
  | 9 => .inl (w.2.2.2.1, 96, .inl fi)
  | 10 => .inl (w.2.2.2.1, 144, .inl fi)
  | 11 => .inl (w.2.2.1, 100, .inl fi)
  | 12 => .inl (w.2.2.2.1, 47, .inl fi)
  | 13 => .inl (w.2.2.2.1, 400, .inl fi)
  | 14 => .inl (w.2.2.2.1, 24, .inl fi)
  | 15 => .inl (w.2.2.2.1, 24, .inl fi)
  | 16 => .inl (w.2.2.1, 4700, .inl fi)
  | 17 => .inl (w.2.2.2.1, 47, .inl fi)
  | 18 => .inl (w.2.2.2.2.2.1, 47, .inl fi)
  | 19 => .inl (w.2.2.2.1, 5, .inl fi)
  | 20 => .inl (w.2.2.2.1, 36, .inl fi)
  | 21 => .inl (w.2.2.2.1, 188, .inl fi)
  | 22 => .inl (w.2.2.2.1, 24, .inl fi)
  | 23 => .inl (w.2.2.2.2.2.1, 24, .inl fi)
  | 24 => .inl (w.2.2.2.2.1, 576, .inr (.inl fj))
  | 25 => .inl (w.2.2.2.1, 2209, .inl fi)
  | 26 => .inl (w.2.2.2.1, 2209, .inl fi)
  | 27 => .inl (w.2.2.2.2.1, 47, .inr (.inl fj))
  | 28 => .inl (w.2.2.2.1, 47, .inl fi)
  | 29 => .inl (w.2.2.2.2.1, 900, .inr (.inl fj))
  | 30 => .inl (w.2.2.2.2.1, 1, .inr (.inl fj))
  | 31 => .inr (10, [.ref (w.1 32), .ref (w.1 34), .ref (w.1 36), .ref (w.1 40), .ref (w.1 41), .ref (w.1 43), .ref (w.1 46), .ref (w.1 48), .ref (w.1 49), .ref (w.1 53), .ref (w.1 58), .ref (w.1 (64 + 5 * T 8))])
  | 32 => .inr (6, [.ref (w.1 33), .int (fn 1)])
  | 33 => .inl (w.2.2.2.1, 400, .inl fi)
  | 34 => .inr (3, [.ref (w.1 35), .int (fn 1), .int (fn 2), .int (fn 3), .int (fn 4), .int (fn 5)])
  | 35 => .inl (w.2.2.2.1, 23, .inl fi)
  | 36 => .inr (9, [.ref (w.1 37), .int (fn 1), .ref (w.1 38), .ref (w.1 39)])
  | 37 => .inl (w.2.2.2.1, 94, .inl fi)
  | 38 => .inl (w.2.2.2.1, 47, .inl fi)
  | 39 => .inl (w.2.2.2.1, 47, .inl fi)
  | 40 => .inl (w.2.2.2.2.2.2, 8, .inr (.inr (.inr (.inr (fun k => if k < 8 then some (w.1 (64 + 5 * T k)) else none)))))
  | 41 => .inr (1, [.ref (w.1 42), .int (fn 1)])
  | 42 => .inl (w.2.2.2.1, 47, .inl fi)
  | 43 => .inr (8, [.ref (w.1 44), .ref (w.1 45), .int (fn 2)])
  | 44 => .inl (w.2.2.2.1, 80, .inl fi)
  | 45 => .inl (w.2.2.2.1, 80, .inl fi)
  | 46 => .inr (4, [.ref (w.1 47), .int (fn 1)])
  | 47 => .inl (w.2.2.2.1, 16, .inl fi)
  | 48 => .inl (w.2.2.2.1, 96, .inl fi)
  | 49 => .inr (5, [.ref (w.1 50), .ref (w.1 51), .ref (w.1 52)])
  | 50 => .inl (w.2.2.2.1, 188, .inl fi)
  | 51 => .inl (w.2.2.2.2.1, 47, .inr (.inl fj))
  | 52 => .inl (w.2.2.2.1, 47, .inl fi)
  | 53 => .inr (0, [.int (fn 0), .ref (w.1 54), .ref (w.1 55), .ref (w.1 56), .ref (w.1 57), .int (fn 5), .int (fn 6)])
  | 54 => .inl (w.2.2.2.1, 144, .inl fi)
  | 55 => .inl (w.2.2.2.1, 12, .inl fi)
  | 56 => .inl (w.2.2.2.2.1, 144, .inr (.inl fj))
  | 57 => .inl (w.2.2.2.2.1, 12, .inr (.inl fj))
  | 58 => .inr (2, [.ref (w.1 59), .ref (w.1 60), .ref (w.1 61), .ref (w.1 62), .ref (w.1 63)])
  | 59 => .inl (w.2.2.2.1, 1081, .inl fi)
  | 60 => .inl (w.2.2.2.1, 47, .inl fi)
  | 61 => .inl (w.2.2.2.1, 47, .inl fi)
  | 62 => .inl (w.2.2.2.1, 47, .inl fi)
  | _ => .inl (w.2.2.2.1, 47, .inl fi)
def celT (w : Wd) (fi : Nat → Int32) (fn : Nat → Int32) (j r : Nat) : va_E := if r = 0 then .inr (7, [.ref (w.1 (65 + 5 * j)), .ref (w.1 (66 + 5 * j)), .ref (w.1 (67 + 5 * j)), .ref (w.1 (68 + 5 * j)), .int (fn 4), .int (fn 5)]) else .inl (w.2.2.2.1, 47, .inl fi)
def celA (w : Wd) (fi : Nat → Int32) (fj : Nat → Int64) (fn : Nat → Int32) (T : Nat → Nat) (i : Nat) : va_E := if i < 64 then celF w fi fj fn T i else celT w fi fn ((i - 64) / 5) ((i - 64) % 5)
def cel (w : Wd) (σ : St) (i : Nat) : va_E := celA w (σ.1 i) (σ.2.1 i) (σ.2.2.1 i) σ.2.2.2 i
def wd (w : Wd) (σ : St) : va_W := (List.range 109).map (fun i => (w.1 i, cel w σ i))
theorem ce_0 (w : Wd) (σ : St) : cel w σ 0 = .inr (11, [.int (nF σ 0 0), .ref (w.1 1), .int (nF σ 0 2), .int (nF σ 0 3), .int (nF σ 0 4), .ref (w.1 2), .ref (w.1 3), .ref (w.1 4), .ref (w.1 5), .ref (w.1 6), .ref (w.1 7), .int (nF σ 0 11), .ref (w.1 8), .int (nF σ 0 13), .ref (w.1 9), .ref (w.1 10), .int (nF σ 0 16), .ref (w.1 11), .int (nF σ 0 18), .ref (w.1 12), .ref (w.1 13), .int (nF σ 0 21), .int (nF σ 0 22), .ref (w.1 14), .ref (w.1 15), .ref (w.1 16), .ref (w.1 17), .ref (w.1 18), .ref (w.1 19), .ref (w.1 20), .ref (w.1 21), .ref (w.1 22), .ref (w.1 23), .ref (w.1 24), .ref (w.1 25), .ref (w.1 26), .ref (w.1 27), .ref (w.1 28), .ref (w.1 29)]) := rfl
theorem ce_1 (w : Wd) (σ : St) : cel w σ 1 = .inl (w.2.2.1, 400, .inl (iA σ 1)) := rfl
theorem ce_2 (w : Wd) (σ : St) : cel w σ 2 = .inl (w.2.2.2.1, 9, .inl (iA σ 2)) := rfl
theorem ce_3 (w : Wd) (σ : St) : cel w σ 3 = .inl (w.2.2.2.1, 456, .inl (iA σ 3)) := rfl
theorem ce_4 (w : Wd) (σ : St) : cel w σ 4 = .inl (w.2.2.2.1, 456, .inl (iA σ 4)) := rfl
theorem ce_5 (w : Wd) (σ : St) : cel w σ 5 = .inl (w.2.2.2.1, 80, .inl (iA σ 5)) := rfl
theorem ce_6 (w : Wd) (σ : St) : cel w σ 6 = .inl (w.2.2.2.1, 80, .inl (iA σ 6)) := rfl
theorem ce_7 (w : Wd) (σ : St) : cel w σ 7 = .inl (w.2.2.2.1, 80, .inl (iA σ 7)) := rfl
theorem ce_8 (w : Wd) (σ : St) : cel w σ 8 = .inl (w.2.2.2.1, 16, .inl (iA σ 8)) := rfl
theorem ce_9 (w : Wd) (σ : St) : cel w σ 9 = .inl (w.2.2.2.1, 96, .inl (iA σ 9)) := rfl
theorem ce_10 (w : Wd) (σ : St) : cel w σ 10 = .inl (w.2.2.2.1, 144, .inl (iA σ 10)) := rfl
theorem ce_11 (w : Wd) (σ : St) : cel w σ 11 = .inl (w.2.2.1, 100, .inl (iA σ 11)) := rfl
theorem ce_12 (w : Wd) (σ : St) : cel w σ 12 = .inl (w.2.2.2.1, 47, .inl (iA σ 12)) := rfl
theorem ce_13 (w : Wd) (σ : St) : cel w σ 13 = .inl (w.2.2.2.1, 400, .inl (iA σ 13)) := rfl
theorem ce_14 (w : Wd) (σ : St) : cel w σ 14 = .inl (w.2.2.2.1, 24, .inl (iA σ 14)) := rfl
theorem ce_15 (w : Wd) (σ : St) : cel w σ 15 = .inl (w.2.2.2.1, 24, .inl (iA σ 15)) := rfl
theorem ce_16 (w : Wd) (σ : St) : cel w σ 16 = .inl (w.2.2.1, 4700, .inl (iA σ 16)) := rfl
theorem ce_17 (w : Wd) (σ : St) : cel w σ 17 = .inl (w.2.2.2.1, 47, .inl (iA σ 17)) := rfl
theorem ce_18 (w : Wd) (σ : St) : cel w σ 18 = .inl (w.2.2.2.2.2.1, 47, .inl (iA σ 18)) := rfl
theorem ce_19 (w : Wd) (σ : St) : cel w σ 19 = .inl (w.2.2.2.1, 5, .inl (iA σ 19)) := rfl
theorem ce_20 (w : Wd) (σ : St) : cel w σ 20 = .inl (w.2.2.2.1, 36, .inl (iA σ 20)) := rfl
theorem ce_21 (w : Wd) (σ : St) : cel w σ 21 = .inl (w.2.2.2.1, 188, .inl (iA σ 21)) := rfl
theorem ce_22 (w : Wd) (σ : St) : cel w σ 22 = .inl (w.2.2.2.1, 24, .inl (iA σ 22)) := rfl
theorem ce_23 (w : Wd) (σ : St) : cel w σ 23 = .inl (w.2.2.2.2.2.1, 24, .inl (iA σ 23)) := rfl
theorem ce_24 (w : Wd) (σ : St) : cel w σ 24 = .inl (w.2.2.2.2.1, 576, .inr (.inl (jA σ 24))) := rfl
theorem ce_25 (w : Wd) (σ : St) : cel w σ 25 = .inl (w.2.2.2.1, 2209, .inl (iA σ 25)) := rfl
theorem ce_26 (w : Wd) (σ : St) : cel w σ 26 = .inl (w.2.2.2.1, 2209, .inl (iA σ 26)) := rfl
theorem ce_27 (w : Wd) (σ : St) : cel w σ 27 = .inl (w.2.2.2.2.1, 47, .inr (.inl (jA σ 27))) := rfl
theorem ce_28 (w : Wd) (σ : St) : cel w σ 28 = .inl (w.2.2.2.1, 47, .inl (iA σ 28)) := rfl
theorem ce_29 (w : Wd) (σ : St) : cel w σ 29 = .inl (w.2.2.2.2.1, 900, .inr (.inl (jA σ 29))) := rfl
theorem ce_30 (w : Wd) (σ : St) : cel w σ 30 = .inl (w.2.2.2.2.1, 1, .inr (.inl (jA σ 30))) := rfl
theorem ce_31 (w : Wd) (σ : St) : cel w σ 31 = .inr (10, [.ref (w.1 32), .ref (w.1 34), .ref (w.1 36), .ref (w.1 40), .ref (w.1 41), .ref (w.1 43), .ref (w.1 46), .ref (w.1 48), .ref (w.1 49), .ref (w.1 53), .ref (w.1 58), .ref (w.1 (64 + 5 * tS σ 8))]) := rfl
theorem ce_32 (w : Wd) (σ : St) : cel w σ 32 = .inr (6, [.ref (w.1 33), .int (nF σ 32 1)]) := rfl
theorem ce_33 (w : Wd) (σ : St) : cel w σ 33 = .inl (w.2.2.2.1, 400, .inl (iA σ 33)) := rfl
theorem ce_34 (w : Wd) (σ : St) : cel w σ 34 = .inr (3, [.ref (w.1 35), .int (nF σ 34 1), .int (nF σ 34 2), .int (nF σ 34 3), .int (nF σ 34 4), .int (nF σ 34 5)]) := rfl
theorem ce_35 (w : Wd) (σ : St) : cel w σ 35 = .inl (w.2.2.2.1, 23, .inl (iA σ 35)) := rfl
theorem ce_36 (w : Wd) (σ : St) : cel w σ 36 = .inr (9, [.ref (w.1 37), .int (nF σ 36 1), .ref (w.1 38), .ref (w.1 39)]) := rfl
theorem ce_37 (w : Wd) (σ : St) : cel w σ 37 = .inl (w.2.2.2.1, 94, .inl (iA σ 37)) := rfl
theorem ce_38 (w : Wd) (σ : St) : cel w σ 38 = .inl (w.2.2.2.1, 47, .inl (iA σ 38)) := rfl
theorem ce_39 (w : Wd) (σ : St) : cel w σ 39 = .inl (w.2.2.2.1, 47, .inl (iA σ 39)) := rfl
theorem ce_40 (w : Wd) (σ : St) : cel w σ 40 = .inl (w.2.2.2.2.2.2, 8, .inr (.inr (.inr (.inr (fun k => if k < 8 then some (w.1 (64 + 5 * tS σ k)) else none))))) := rfl
theorem ce_41 (w : Wd) (σ : St) : cel w σ 41 = .inr (1, [.ref (w.1 42), .int (nF σ 41 1)]) := rfl
theorem ce_42 (w : Wd) (σ : St) : cel w σ 42 = .inl (w.2.2.2.1, 47, .inl (iA σ 42)) := rfl
theorem ce_43 (w : Wd) (σ : St) : cel w σ 43 = .inr (8, [.ref (w.1 44), .ref (w.1 45), .int (nF σ 43 2)]) := rfl
theorem ce_44 (w : Wd) (σ : St) : cel w σ 44 = .inl (w.2.2.2.1, 80, .inl (iA σ 44)) := rfl
theorem ce_45 (w : Wd) (σ : St) : cel w σ 45 = .inl (w.2.2.2.1, 80, .inl (iA σ 45)) := rfl
theorem ce_46 (w : Wd) (σ : St) : cel w σ 46 = .inr (4, [.ref (w.1 47), .int (nF σ 46 1)]) := rfl
theorem ce_47 (w : Wd) (σ : St) : cel w σ 47 = .inl (w.2.2.2.1, 16, .inl (iA σ 47)) := rfl
theorem ce_48 (w : Wd) (σ : St) : cel w σ 48 = .inl (w.2.2.2.1, 96, .inl (iA σ 48)) := rfl
theorem ce_49 (w : Wd) (σ : St) : cel w σ 49 = .inr (5, [.ref (w.1 50), .ref (w.1 51), .ref (w.1 52)]) := rfl
theorem ce_50 (w : Wd) (σ : St) : cel w σ 50 = .inl (w.2.2.2.1, 188, .inl (iA σ 50)) := rfl
theorem ce_51 (w : Wd) (σ : St) : cel w σ 51 = .inl (w.2.2.2.2.1, 47, .inr (.inl (jA σ 51))) := rfl
theorem ce_52 (w : Wd) (σ : St) : cel w σ 52 = .inl (w.2.2.2.1, 47, .inl (iA σ 52)) := rfl
theorem ce_53 (w : Wd) (σ : St) : cel w σ 53 = .inr (0, [.int (nF σ 53 0), .ref (w.1 54), .ref (w.1 55), .ref (w.1 56), .ref (w.1 57), .int (nF σ 53 5), .int (nF σ 53 6)]) := rfl
theorem ce_54 (w : Wd) (σ : St) : cel w σ 54 = .inl (w.2.2.2.1, 144, .inl (iA σ 54)) := rfl
theorem ce_55 (w : Wd) (σ : St) : cel w σ 55 = .inl (w.2.2.2.1, 12, .inl (iA σ 55)) := rfl
theorem ce_56 (w : Wd) (σ : St) : cel w σ 56 = .inl (w.2.2.2.2.1, 144, .inr (.inl (jA σ 56))) := rfl
theorem ce_57 (w : Wd) (σ : St) : cel w σ 57 = .inl (w.2.2.2.2.1, 12, .inr (.inl (jA σ 57))) := rfl
theorem ce_58 (w : Wd) (σ : St) : cel w σ 58 = .inr (2, [.ref (w.1 59), .ref (w.1 60), .ref (w.1 61), .ref (w.1 62), .ref (w.1 63)]) := rfl
theorem ce_59 (w : Wd) (σ : St) : cel w σ 59 = .inl (w.2.2.2.1, 1081, .inl (iA σ 59)) := rfl
theorem ce_60 (w : Wd) (σ : St) : cel w σ 60 = .inl (w.2.2.2.1, 47, .inl (iA σ 60)) := rfl
theorem ce_61 (w : Wd) (σ : St) : cel w σ 61 = .inl (w.2.2.2.1, 47, .inl (iA σ 61)) := rfl
theorem ce_62 (w : Wd) (σ : St) : cel w σ 62 = .inl (w.2.2.2.1, 47, .inl (iA σ 62)) := rfl
theorem ce_63 (w : Wd) (σ : St) : cel w σ 63 = .inl (w.2.2.2.1, 47, .inl (iA σ 63)) := rfl
theorem ce_tree (w : Wd) (σ : St) (j : Nat) : cel w σ (64 + 5 * j) = .inr (7, [.ref (w.1 (65 + 5 * j)), .ref (w.1 (66 + 5 * j)), .ref (w.1 (67 + 5 * j)), .ref (w.1 (68 + 5 * j)), .int (nF σ (64 + 5 * j) 4), .int (nF σ (64 + 5 * j) 5)]) := by
  show celA w _ _ _ _ _ = _
  unfold celA
  rw [if_neg (by omega), show 64 + 5 * j - 64 = 5 * j by omega, show 5 * j / 5 = j by omega, show 5 * j % 5 = 0 by omega]
  rfl
theorem ce_parent (w : Wd) (σ : St) (j : Nat) : cel w σ (65 + 5 * j) = .inl (w.2.2.2.1, 47, .inl (iA σ (65 + 5 * j))) := by
  show celA w _ _ _ _ _ = _
  unfold celA
  rw [if_neg (by omega), show 65 + 5 * j - 64 = 5 * j + 1 by omega, show (5 * j + 1) / 5 = j by omega, show (5 * j + 1) % 5 = 1 by omega]
  rfl
theorem ce_kind (w : Wd) (σ : St) (j : Nat) : cel w σ (66 + 5 * j) = .inl (w.2.2.2.1, 47, .inl (iA σ (66 + 5 * j))) := by
  show celA w _ _ _ _ _ = _
  unfold celA
  rw [if_neg (by omega), show 66 + 5 * j - 64 = 5 * j + 2 by omega, show (5 * j + 2) / 5 = j by omega, show (5 * j + 2) % 5 = 2 by omega]
  rfl
theorem ce_cluster (w : Wd) (σ : St) (j : Nat) : cel w σ (67 + 5 * j) = .inl (w.2.2.2.1, 47, .inl (iA σ (67 + 5 * j))) := by
  show celA w _ _ _ _ _ = _
  unfold celA
  rw [if_neg (by omega), show 67 + 5 * j - 64 = 5 * j + 3 by omega, show (5 * j + 3) / 5 = j by omega, show (5 * j + 3) % 5 = 3 by omega]
  rfl
theorem ce_children (w : Wd) (σ : St) (j : Nat) : cel w σ (68 + 5 * j) = .inl (w.2.2.2.1, 47, .inl (iA σ (68 + 5 * j))) := by
  show celA w _ _ _ _ _ = _
  unfold celA
  rw [if_neg (by omega), show 68 + 5 * j - 64 = 5 * j + 4 by omega, show (5 * j + 4) / 5 = j by omega, show (5 * j + 4) % 5 = 4 by omega]
  rfl
theorem wd_get {w : Wd} {σ : St} {i : Nat} (h : i < 109) : (wd w σ)[i]? = some (w.1 i, cel w σ i) := by
  simp [wd, List.getElem?_map, List.getElem?_range h]
theorem wd_len (w : Wd) (σ : St) : (wd w σ).length = 109 := by simp [wd]
theorem wd_set {w : Wd} {σ σ' : St} {i : Nat} (hi : i < 109) {e : va_E} (he : cel w σ' i = e) (h : ∀ k, k ≠ i → cel w σ' k = cel w σ k) : (wd w σ).set i (w.1 i, e) = wd w σ' := by
  apply List.ext_getElem?
  intro k
  by_cases hk : k = i
  · subst hk
    rw [List.getElem?_set_self (by rw [wd_len]; exact hi), wd_get hi, he]
  · rw [List.getElem?_set_ne (Ne.symm hk)]
    by_cases hl : k < 109
    · rw [wd_get hl, wd_get hl, h k hk]
    · rw [List.getElem?_eq_none (by rw [wd_len]; omega), List.getElem?_eq_none (by rw [wd_len]; omega)]
theorem cel_sI {w : Wd} {σ : St} {a : Nat} {f : Nat → Int32} {k : Nat} (h : k ≠ a) : cel w (sI σ a f) k = cel w σ k := by
  unfold cel sI
  simp only [va_up_ne _ _ h]
theorem cel_sJ {w : Wd} {σ : St} {a : Nat} {f : Nat → Int64} {k : Nat} (h : k ≠ a) : cel w (sJ σ a f) k = cel w σ k := by
  unfold cel sJ
  simp only [va_up_ne _ _ h]
theorem cel_sN {w : Wd} {σ : St} {a i : Nat} {v : Int32} {k : Nat} (h : k ≠ a) : cel w (sN σ a i v) k = cel w σ k := by
  unfold cel sN
  simp only [va_up_ne _ _ h]
theorem celF_T (w : Wd) (fi : Nat → Int32) (fj : Nat → Int64) (fn : Nat → Int32) (T T' : Nat → Nat) (i : Nat) (h1 : i ≠ 31) (h2 : i ≠ 40) : celF w fi fj fn T i = celF w fi fj fn T' i := by
  unfold celF
  split <;> first | rfl | exact absurd rfl h1 | exact absurd rfl h2
theorem cel_T {w : Wd} {σ : St} {T' : Nat → Nat} {k : Nat} (h1 : k ≠ 31) (h2 : k ≠ 40) : cel w (σ.1, σ.2.1, σ.2.2.1, T') k = cel w σ k := by
  unfold cel celA
  split
  · exact celF_T w _ _ _ _ _ k h1 h2
  · rfl
