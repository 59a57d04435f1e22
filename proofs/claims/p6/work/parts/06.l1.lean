/-! The reference's state: its numbers, its long numbers, its rows. -/
abbrev QS : Type := (Nat → Int32) × (Nat → Int64) × (Nat → Int32 → Int32) × (Nat → Int32 → Int64)
def qI (s : QS) (k : Nat) (x : Int32) : QS := (fun j => if j = k then x else s.1 j, s.2)
def qA (s : QS) (k : Nat) (f : Int32 → Int32) : QS := (s.1, s.2.1, (fun j => if j = k then f else s.2.2.1 j), s.2.2.2)
def M_refuse (s : QS) (l1 : Int32) (l2 : Int32) : Option (QS × Int32) := do
  if l2 = 0 then do
    some (s, l2)
  else do
    let s := qI s 2 l1
    some (s, l2)
/-! The reference's world, as a function of its state. -/
def rW (ad : Nat → Nat) (adT : Int32 → Nat) (kI kB kZ : ClassId) (s : QS) : va_W :=
  (ad 0, .inr (9, [.ref (ad 1), .int (s.1 1), .int (s.1 2), .int (s.1 3), .int (s.1 4), .int (s.1 5), .ref (ad 2), .ref (ad 3), .ref (ad 4), .ref (ad 5), .ref (ad 6), .ref (ad 7), .ref (ad 8), .ref (ad 9), .ref (ad 10), .ref (ad 11), .ref (ad 12), .ref (ad 13), .ref (ad 14), .ref (ad 15), .ref (ad 16), .ref (ad 17), .ref (ad 18), .int (s.1 23), .int (s.1 24), .int (s.1 25), .int (s.1 26), .int (s.1 27), .int (s.1 28), .int (s.1 29), .int (s.1 30), .int (s.1 31), .int (s.1 32), .int (s.1 33), .int (s.1 34), .int (s.1 35), .int (s.1 36), .int (s.1 37), .int (s.1 38), .int (s.1 39), .int (s.1 40), .int (s.1 41), .int (s.1 42), .int (s.1 43), .int (s.1 44), .ref (ad 19), .ref (ad 20), .ref (ad 21), .ref (ad 22), .ref (ad 23), .ref (ad 24), .ref (ad 25), .ref (ad 26), .ref (ad 27), .int (s.1 54), .ref (ad 28), .ref (ad 29), (if s.1 57 = -1 then .null else .ref (ad 30)), (if s.1 58 = -1 then .null else .ref (ad 31)), (if s.1 59 = -1 then .null else .ref (ad 32)), (if s.1 60 = -1 then .null else .ref (ad 33)), (if s.1 61 = -1 then .null else .ref (ad 34)), (if s.1 62 = -1 then .null else .ref (ad 35)), .ref (ad 36), .int (s.1 64), .long (s.2.1 65), .int (s.1 66), .long (s.2.1 67), .ref (ad 37), .int (s.1 69), .ref (ad 38), .ref (ad 39), (if s.1 72 = -1 then .null else .ref (adT (s.1 72))), .int (s.1 73), .int (s.1 74), .int (s.1 75), .long (s.2.1 76), .ref (ad 40), .ref (ad 41), .ref (ad 42), .int (s.1 80), .long (s.2.1 81), .ref (ad 43), .ref (ad 44), .ref (ad 45), .ref (ad 46), .ref (ad 47), .ref (ad 48), .ref (ad 49), .ref (ad 50), .ref (ad 51), .ref (ad 52), .int (s.1 92), .ref (ad 53), .ref (ad 54), .int (s.1 95), .int (s.1 96), .ref (ad 55), .int (s.1 98), .long (s.2.1 99)])) ::
  [(ad 1, .inl (kB, 65536, .inl (fun j => s.2.2.1 1 (Int32.ofNat j)))),
   (ad 13, .inl (kI, 30200, .inl (fun j => s.2.2.1 13 (Int32.ofNat j)))),
   (ad 14, .inl (kI, 256, .inl (fun j => s.2.2.1 14 (Int32.ofNat j)))),
   (ad 15, .inl (kI, 20001, .inl (fun j => s.2.2.1 15 (Int32.ofNat j)))),
   (ad 16, .inl (kI, 20001, .inl (fun j => s.2.2.1 16 (Int32.ofNat j)))),
   (ad 18, .inl (kI, 20001, .inl (fun j => s.2.2.1 18 (Int32.ofNat j)))),
   (ad 28, .inl (kB, 400000, .inl (fun j => s.2.2.1 28 (Int32.ofNat j)))),
   (ad 29, .inl (kI, 1024, .inl (fun j => s.2.2.1 29 (Int32.ofNat j)))),
   (ad 43, .inl (kI, 64, .inl (fun j => s.2.2.1 43 (Int32.ofNat j)))),
   (ad 48, .inl (kI, 22, .inl (fun j => s.2.2.1 48 (Int32.ofNat j)))),
   (ad 49, .inl (kI, 7, .inl (fun j => s.2.2.1 49 (Int32.ofNat j)))),
   (ad 50, .inl (kI, 4, .inl (fun j => s.2.2.1 50 (Int32.ofNat j)))),
   (ad 51, .inl (kI, 24, .inl (fun j => s.2.2.1 51 (Int32.ofNat j)))),
   (ad 52, .inl (kB, 64, .inl (fun j => s.2.2.1 52 (Int32.ofNat j)))),
   (ad 53, .inl (kB, 266800, .inl (fun j => s.2.2.1 53 (Int32.ofNat j)))),
   (ad 55, .inl (kB, 24, .inl (fun j => s.2.2.1 55 (Int32.ofNat j)))),
   (ad 54, .inl (kB, 20000, .inl (fun j => s.2.2.1 54 (Int32.ofNat j)))),
   (ad 2, .inl (kI, 251, .inl (fun j => s.2.2.1 2 (Int32.ofNat j)))),
   (ad 3, .inl (kI, 251, .inl (fun j => s.2.2.1 3 (Int32.ofNat j)))),
   (ad 4, .inl (kI, 251, .inl (fun j => s.2.2.1 4 (Int32.ofNat j)))),
   (ad 5, .inl (kI, 251, .inl (fun j => s.2.2.1 5 (Int32.ofNat j)))),
   (ad 6, .inl (kI, 251, .inl (fun j => s.2.2.1 6 (Int32.ofNat j)))),
   (ad 7, .inl (kI, 251, .inl (fun j => s.2.2.1 7 (Int32.ofNat j)))),
   (ad 8, .inl (kI, 251, .inl (fun j => s.2.2.1 8 (Int32.ofNat j)))),
   (ad 9, .inl (kI, 251, .inl (fun j => s.2.2.1 9 (Int32.ofNat j)))),
   (ad 10, .inl (kI, 251, .inl (fun j => s.2.2.1 10 (Int32.ofNat j)))),
   (ad 11, .inl (kI, 251, .inl (fun j => s.2.2.1 11 (Int32.ofNat j)))),
   (ad 12, .inl (kI, 251, .inl (fun j => s.2.2.1 12 (Int32.ofNat j)))),
   (ad 19, .inl (kB, 4100, .inl (fun j => s.2.2.1 19 (Int32.ofNat j)))),
   (ad 20, .inl (kZ, 4100, .inl (fun j => s.2.2.1 20 (Int32.ofNat j)))),
   (ad 21, .inl (kZ, 4100, .inl (fun j => s.2.2.1 21 (Int32.ofNat j)))),
   (ad 22, .inl (kI, 4100, .inl (fun j => s.2.2.1 22 (Int32.ofNat j)))),
   (ad 23, .inl (kI, 4100, .inl (fun j => s.2.2.1 23 (Int32.ofNat j)))),
   (ad 24, .inl (kI, 4100, .inl (fun j => s.2.2.1 24 (Int32.ofNat j)))),
   (ad 25, .inl (kI, 4100, .inl (fun j => s.2.2.1 25 (Int32.ofNat j)))),
   (ad 26, .inl (kI, 4100, .inl (fun j => s.2.2.1 26 (Int32.ofNat j)))),
   (ad 27, .inl (kI, 4100, .inl (fun j => s.2.2.1 27 (Int32.ofNat j)))),
   (ad 37, .inl (kI, 4100, .inl (fun j => s.2.2.1 37 (Int32.ofNat j))))]
