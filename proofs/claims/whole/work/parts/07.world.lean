def cFC : (Nat → ClassId) → (Nat → Nat) → Nat → (Int → Int) → va_E := fun cy aa k r => match k with
  | 0 => .inr (10, [.ref (aa 1), .ref (aa 3), .ref (aa 5), .ref (aa 6), .ref (aa 19), .ref (aa 23), .ref (aa 31), .ref (aa 35), .ref (aa 7), .ref (aa 8), .ref (aa 12), .ref (aa 59), .ref (aa 66), .ref (aa (r 13).toNat), .ref (aa (r 14).toNat), .int (iz (r 15)), .int (iz (r 16)), .int (iz (r 17)), .int (iz (r 18)), .int (iz (r 19))])
  | 1 => .inr (8, [.ref (aa 2), .int (iz (r 1)), .int (iz (r 2)), .int (iz (r 3)), .long (lz (r 4)), .int (iz (r 5)), .int (iz (r 6))])
  | 2 => eI cy 700 r
  | 3 => .inr (5, [.ref (aa 1), .ref (aa 4), .long (lz (r 2)), .long (lz (r 3)), .long (lz (r 4)), .long (lz (r 5)), .long (lz (r 6)), .long (lz (r 7)), .int (iz (r 8)), .int (iz (r 9)), .int (iz (r 10)), .int (iz (r 11))])
  | 4 => eL cy 3 r
  | 5 => eI cy 11 r
  | 6 => eI cy 110 r
  | 7 => .inr (7, [.ref (aa 15), .ref (aa 17)])
  | 8 => .inr (1, [.ref (aa 9), .ref (aa 10), .ref (aa 11), .ref (aa 39), .ref (aa 7), .int (iz (r 5))])
  | 9 => eI cy 4913 r
  | 10 => eI cy 3 r
  | 11 => eI cy 3 r
  | 12 => .inr (3, [.ref (aa 13), .ref (aa 14), .int (iz (r 2)), .int (iz (r 3)), .ref (aa 8), .ref (aa 7), .ref (aa 27), .ref (aa 43), .ref (aa 47)])
  | 13 => eI cy 400 r
  | 14 => eI cy 400 r
  | 15 => .inr (0, [.ref (aa 16), .int (iz (r 1))])
  | 16 => eL cy 16 r
  | 17 => .inr (0, [.ref (aa 18), .int (iz (r 1))])
  | 18 => eL cy 16 r
  | 19 => .inr (9, [.ref (aa 20), .ref (aa 21), .ref (aa 22), .int (iz (r 3))])
  | 20 => eI cy 3 r
  | 21 => eI cy 3 r
  | 22 => eI cy 3 r
  | 23 => .inr (9, [.ref (aa 24), .ref (aa 25), .ref (aa 26), .int (iz (r 3))])
  | 24 => eI cy 3 r
  | 25 => eI cy 3 r
  | 26 => eI cy 3 r
  | 27 => .inr (9, [.ref (aa 28), .ref (aa 29), .ref (aa 30), .int (iz (r 3))])
  | 28 => eI cy 3 r
  | 29 => eI cy 3 r
  | 30 => eI cy 3 r
  | 31 => .inr (4, [.ref (aa 32), .ref (aa 33), .ref (aa 34), .int (iz (r 3))])
  | 32 => eI cy 8 r
  | 33 => eI cy 8 r
  | 34 => eI cy 8 r
  | 35 => .inr (4, [.ref (aa 36), .ref (aa 37), .ref (aa 38), .int (iz (r 3))])
  | 36 => eI cy 8 r
  | 37 => eI cy 8 r
  | 38 => eI cy 8 r
  | 39 => .inr (4, [.ref (aa 40), .ref (aa 41), .ref (aa 42), .int (iz (r 3))])
  | 40 => eI cy 8 r
  | 41 => eI cy 8 r
  | 42 => eI cy 8 r
  | 43 => .inr (4, [.ref (aa 44), .ref (aa 45), .ref (aa 46), .int (iz (r 3))])
  | 44 => eI cy 8 r
  | 45 => eI cy 8 r
  | 46 => eI cy 8 r
  | 47 => .inr (4, [.ref (aa 48), .ref (aa 49), .ref (aa 50), .int (iz (r 3))])
  | 48 => eI cy 8 r
  | 49 => eI cy 8 r
  | 50 => eI cy 8 r
  | 51 => .inr (4, [.ref (aa 52), .ref (aa 53), .ref (aa 54), .int (iz (r 3))])
  | 52 => eI cy 8 r
  | 53 => eI cy 8 r
  | 54 => eI cy 8 r
  | 55 => .inr (4, [.ref (aa 56), .ref (aa 57), .ref (aa 58), .int (iz (r 3))])
  | 56 => eI cy 8 r
  | 57 => eI cy 8 r
  | 58 => eI cy 8 r
  | 59 => .inr (2, [.ref (aa 60), .ref (aa 61), .ref (aa 62), .ref (aa 63), .ref (aa 64), .ref (aa 65), .ref (aa 51), .int (iz (r 7)), .int (iz (r 8)), .int (iz (r 9))])
  | 60 => eI cy 51 r
  | 61 => eI cy 51 r
  | 62 => eI cy 51 r
  | 63 => eI cy 51 r
  | 64 => eI cy 51 r
  | 65 => eI cy 51 r
  | 66 => .inr (2, [.ref (aa 67), .ref (aa 68), .ref (aa 69), .ref (aa 70), .ref (aa 71), .ref (aa 72), .ref (aa 55), .int (iz (r 7)), .int (iz (r 8)), .int (iz (r 9))])
  | 67 => eI cy 51 r
  | 68 => eI cy 51 r
  | 69 => eI cy 51 r
  | 70 => eI cy 51 r
  | 71 => eI cy 51 r
  | 72 => eI cy 51 r
  | 73 => .inr (6, [.int (iz (r 0)), .int (iz (r 1)), .int (iz (r 2)), .int (iz (r 3)), .int (iz (r 4)), .int (iz (r 5)), .int (iz (r 6)), .ref (aa 74), .ref (aa 75), .ref (aa 76), .ref (aa 77)])
  | 74 => eI cy 27 r
  | 75 => eI cy 6 r
  | 76 => eI cy 6 r
  | 77 => eI cy 6 r
  | 78 => .inr (6, [.int (iz (r 0)), .int (iz (r 1)), .int (iz (r 2)), .int (iz (r 3)), .int (iz (r 4)), .int (iz (r 5)), .int (iz (r 6)), .ref (aa 79), .ref (aa 80), .ref (aa 81), .ref (aa 82)])
  | 79 => eI cy 27 r
  | 80 => eI cy 6 r
  | 81 => eI cy 6 r
  | _ => eI cy 6 r
abbrev wC (D : va_G) (cy : Nat → ClassId) (aa ad : Nat → Nat) : Wd := (D, cy, aa, 83, cFC, ad)
section WC
variable {D : va_G} {cy : Nat → ClassId} {aa ad : Nat → Nat}
theorem eC0 (x : Int → Int) : wE (wC D cy aa ad) 0 x = .inr (10, [.ref (aa 1), .ref (aa 3), .ref (aa 5), .ref (aa 6), .ref (aa 19), .ref (aa 23), .ref (aa 31), .ref (aa 35), .ref (aa 7), .ref (aa 8), .ref (aa 12), .ref (aa 59), .ref (aa 66), .ref (aa (x 13).toNat), .ref (aa (x 14).toNat), .int (iz (x 15)), .int (iz (x 16)), .int (iz (x 17)), .int (iz (x 18)), .int (iz (x 19))]) := rfl
theorem lC0 : 0 < (wC D cy aa ad).2.2.2.1 := Nat.le_of_ble_eq_true rfl
theorem eC1 (x : Int → Int) : wE (wC D cy aa ad) 1 x = .inr (8, [.ref (aa 2), .int (iz (x 1)), .int (iz (x 2)), .int (iz (x 3)), .long (lz (x 4)), .int (iz (x 5)), .int (iz (x 6))]) := rfl
theorem lC1 : 1 < (wC D cy aa ad).2.2.2.1 := Nat.le_of_ble_eq_true rfl
theorem eC2 (x : Int → Int) : wE (wC D cy aa ad) 2 x = eI cy 700 x := rfl
theorem lC2 : 2 < (wC D cy aa ad).2.2.2.1 := Nat.le_of_ble_eq_true rfl
theorem eC3 (x : Int → Int) : wE (wC D cy aa ad) 3 x = .inr (5, [.ref (aa 1), .ref (aa 4), .long (lz (x 2)), .long (lz (x 3)), .long (lz (x 4)), .long (lz (x 5)), .long (lz (x 6)), .long (lz (x 7)), .int (iz (x 8)), .int (iz (x 9)), .int (iz (x 10)), .int (iz (x 11))]) := rfl
theorem lC3 : 3 < (wC D cy aa ad).2.2.2.1 := Nat.le_of_ble_eq_true rfl
theorem eC4 (x : Int → Int) : wE (wC D cy aa ad) 4 x = eL cy 3 x := rfl
theorem lC4 : 4 < (wC D cy aa ad).2.2.2.1 := Nat.le_of_ble_eq_true rfl
theorem eC5 (x : Int → Int) : wE (wC D cy aa ad) 5 x = eI cy 11 x := rfl
theorem lC5 : 5 < (wC D cy aa ad).2.2.2.1 := Nat.le_of_ble_eq_true rfl
theorem eC6 (x : Int → Int) : wE (wC D cy aa ad) 6 x = eI cy 110 x := rfl
theorem lC6 : 6 < (wC D cy aa ad).2.2.2.1 := Nat.le_of_ble_eq_true rfl
theorem eC7 (x : Int → Int) : wE (wC D cy aa ad) 7 x = .inr (7, [.ref (aa 15), .ref (aa 17)]) := rfl
theorem lC7 : 7 < (wC D cy aa ad).2.2.2.1 := Nat.le_of_ble_eq_true rfl
theorem eC8 (x : Int → Int) : wE (wC D cy aa ad) 8 x = .inr (1, [.ref (aa 9), .ref (aa 10), .ref (aa 11), .ref (aa 39), .ref (aa 7), .int (iz (x 5))]) := rfl
theorem lC8 : 8 < (wC D cy aa ad).2.2.2.1 := Nat.le_of_ble_eq_true rfl
theorem eC9 (x : Int → Int) : wE (wC D cy aa ad) 9 x = eI cy 4913 x := rfl
theorem lC9 : 9 < (wC D cy aa ad).2.2.2.1 := Nat.le_of_ble_eq_true rfl
theorem eC10 (x : Int → Int) : wE (wC D cy aa ad) 10 x = eI cy 3 x := rfl
theorem lC10 : 10 < (wC D cy aa ad).2.2.2.1 := Nat.le_of_ble_eq_true rfl
theorem eC11 (x : Int → Int) : wE (wC D cy aa ad) 11 x = eI cy 3 x := rfl
theorem lC11 : 11 < (wC D cy aa ad).2.2.2.1 := Nat.le_of_ble_eq_true rfl
theorem eC12 (x : Int → Int) : wE (wC D cy aa ad) 12 x = .inr (3, [.ref (aa 13), .ref (aa 14), .int (iz (x 2)), .int (iz (x 3)), .ref (aa 8), .ref (aa 7), .ref (aa 27), .ref (aa 43), .ref (aa 47)]) := rfl
theorem lC12 : 12 < (wC D cy aa ad).2.2.2.1 := Nat.le_of_ble_eq_true rfl
theorem eC13 (x : Int → Int) : wE (wC D cy aa ad) 13 x = eI cy 400 x := rfl
theorem lC13 : 13 < (wC D cy aa ad).2.2.2.1 := Nat.le_of_ble_eq_true rfl
theorem eC14 (x : Int → Int) : wE (wC D cy aa ad) 14 x = eI cy 400 x := rfl
theorem lC14 : 14 < (wC D cy aa ad).2.2.2.1 := Nat.le_of_ble_eq_true rfl
theorem eC15 (x : Int → Int) : wE (wC D cy aa ad) 15 x = .inr (0, [.ref (aa 16), .int (iz (x 1))]) := rfl
theorem lC15 : 15 < (wC D cy aa ad).2.2.2.1 := Nat.le_of_ble_eq_true rfl
theorem eC16 (x : Int → Int) : wE (wC D cy aa ad) 16 x = eL cy 16 x := rfl
theorem lC16 : 16 < (wC D cy aa ad).2.2.2.1 := Nat.le_of_ble_eq_true rfl
theorem eC17 (x : Int → Int) : wE (wC D cy aa ad) 17 x = .inr (0, [.ref (aa 18), .int (iz (x 1))]) := rfl
theorem lC17 : 17 < (wC D cy aa ad).2.2.2.1 := Nat.le_of_ble_eq_true rfl
theorem eC18 (x : Int → Int) : wE (wC D cy aa ad) 18 x = eL cy 16 x := rfl
theorem lC18 : 18 < (wC D cy aa ad).2.2.2.1 := Nat.le_of_ble_eq_true rfl
theorem eC19 (x : Int → Int) : wE (wC D cy aa ad) 19 x = .inr (9, [.ref (aa 20), .ref (aa 21), .ref (aa 22), .int (iz (x 3))]) := rfl
theorem lC19 : 19 < (wC D cy aa ad).2.2.2.1 := Nat.le_of_ble_eq_true rfl
theorem eC20 (x : Int → Int) : wE (wC D cy aa ad) 20 x = eI cy 3 x := rfl
theorem lC20 : 20 < (wC D cy aa ad).2.2.2.1 := Nat.le_of_ble_eq_true rfl
theorem eC21 (x : Int → Int) : wE (wC D cy aa ad) 21 x = eI cy 3 x := rfl
theorem lC21 : 21 < (wC D cy aa ad).2.2.2.1 := Nat.le_of_ble_eq_true rfl
theorem eC22 (x : Int → Int) : wE (wC D cy aa ad) 22 x = eI cy 3 x := rfl
theorem lC22 : 22 < (wC D cy aa ad).2.2.2.1 := Nat.le_of_ble_eq_true rfl
theorem eC23 (x : Int → Int) : wE (wC D cy aa ad) 23 x = .inr (9, [.ref (aa 24), .ref (aa 25), .ref (aa 26), .int (iz (x 3))]) := rfl
theorem lC23 : 23 < (wC D cy aa ad).2.2.2.1 := Nat.le_of_ble_eq_true rfl
theorem eC24 (x : Int → Int) : wE (wC D cy aa ad) 24 x = eI cy 3 x := rfl
theorem lC24 : 24 < (wC D cy aa ad).2.2.2.1 := Nat.le_of_ble_eq_true rfl
theorem eC25 (x : Int → Int) : wE (wC D cy aa ad) 25 x = eI cy 3 x := rfl
theorem lC25 : 25 < (wC D cy aa ad).2.2.2.1 := Nat.le_of_ble_eq_true rfl
theorem eC26 (x : Int → Int) : wE (wC D cy aa ad) 26 x = eI cy 3 x := rfl
theorem lC26 : 26 < (wC D cy aa ad).2.2.2.1 := Nat.le_of_ble_eq_true rfl
theorem eC27 (x : Int → Int) : wE (wC D cy aa ad) 27 x = .inr (9, [.ref (aa 28), .ref (aa 29), .ref (aa 30), .int (iz (x 3))]) := rfl
theorem lC27 : 27 < (wC D cy aa ad).2.2.2.1 := Nat.le_of_ble_eq_true rfl
theorem eC28 (x : Int → Int) : wE (wC D cy aa ad) 28 x = eI cy 3 x := rfl
theorem lC28 : 28 < (wC D cy aa ad).2.2.2.1 := Nat.le_of_ble_eq_true rfl
theorem eC29 (x : Int → Int) : wE (wC D cy aa ad) 29 x = eI cy 3 x := rfl
theorem lC29 : 29 < (wC D cy aa ad).2.2.2.1 := Nat.le_of_ble_eq_true rfl
theorem eC30 (x : Int → Int) : wE (wC D cy aa ad) 30 x = eI cy 3 x := rfl
theorem lC30 : 30 < (wC D cy aa ad).2.2.2.1 := Nat.le_of_ble_eq_true rfl
theorem eC31 (x : Int → Int) : wE (wC D cy aa ad) 31 x = .inr (4, [.ref (aa 32), .ref (aa 33), .ref (aa 34), .int (iz (x 3))]) := rfl
theorem lC31 : 31 < (wC D cy aa ad).2.2.2.1 := Nat.le_of_ble_eq_true rfl
theorem eC32 (x : Int → Int) : wE (wC D cy aa ad) 32 x = eI cy 8 x := rfl
theorem lC32 : 32 < (wC D cy aa ad).2.2.2.1 := Nat.le_of_ble_eq_true rfl
theorem eC33 (x : Int → Int) : wE (wC D cy aa ad) 33 x = eI cy 8 x := rfl
theorem lC33 : 33 < (wC D cy aa ad).2.2.2.1 := Nat.le_of_ble_eq_true rfl
theorem eC34 (x : Int → Int) : wE (wC D cy aa ad) 34 x = eI cy 8 x := rfl
theorem lC34 : 34 < (wC D cy aa ad).2.2.2.1 := Nat.le_of_ble_eq_true rfl
theorem eC35 (x : Int → Int) : wE (wC D cy aa ad) 35 x = .inr (4, [.ref (aa 36), .ref (aa 37), .ref (aa 38), .int (iz (x 3))]) := rfl
theorem lC35 : 35 < (wC D cy aa ad).2.2.2.1 := Nat.le_of_ble_eq_true rfl
theorem eC36 (x : Int → Int) : wE (wC D cy aa ad) 36 x = eI cy 8 x := rfl
theorem lC36 : 36 < (wC D cy aa ad).2.2.2.1 := Nat.le_of_ble_eq_true rfl
theorem eC37 (x : Int → Int) : wE (wC D cy aa ad) 37 x = eI cy 8 x := rfl
theorem lC37 : 37 < (wC D cy aa ad).2.2.2.1 := Nat.le_of_ble_eq_true rfl
theorem eC38 (x : Int → Int) : wE (wC D cy aa ad) 38 x = eI cy 8 x := rfl
theorem lC38 : 38 < (wC D cy aa ad).2.2.2.1 := Nat.le_of_ble_eq_true rfl
theorem eC39 (x : Int → Int) : wE (wC D cy aa ad) 39 x = .inr (4, [.ref (aa 40), .ref (aa 41), .ref (aa 42), .int (iz (x 3))]) := rfl
theorem lC39 : 39 < (wC D cy aa ad).2.2.2.1 := Nat.le_of_ble_eq_true rfl
theorem eC40 (x : Int → Int) : wE (wC D cy aa ad) 40 x = eI cy 8 x := rfl
theorem lC40 : 40 < (wC D cy aa ad).2.2.2.1 := Nat.le_of_ble_eq_true rfl
theorem eC41 (x : Int → Int) : wE (wC D cy aa ad) 41 x = eI cy 8 x := rfl
theorem lC41 : 41 < (wC D cy aa ad).2.2.2.1 := Nat.le_of_ble_eq_true rfl
theorem eC42 (x : Int → Int) : wE (wC D cy aa ad) 42 x = eI cy 8 x := rfl
theorem lC42 : 42 < (wC D cy aa ad).2.2.2.1 := Nat.le_of_ble_eq_true rfl
theorem eC43 (x : Int → Int) : wE (wC D cy aa ad) 43 x = .inr (4, [.ref (aa 44), .ref (aa 45), .ref (aa 46), .int (iz (x 3))]) := rfl
theorem lC43 : 43 < (wC D cy aa ad).2.2.2.1 := Nat.le_of_ble_eq_true rfl
theorem eC44 (x : Int → Int) : wE (wC D cy aa ad) 44 x = eI cy 8 x := rfl
theorem lC44 : 44 < (wC D cy aa ad).2.2.2.1 := Nat.le_of_ble_eq_true rfl
theorem eC45 (x : Int → Int) : wE (wC D cy aa ad) 45 x = eI cy 8 x := rfl
theorem lC45 : 45 < (wC D cy aa ad).2.2.2.1 := Nat.le_of_ble_eq_true rfl
theorem eC46 (x : Int → Int) : wE (wC D cy aa ad) 46 x = eI cy 8 x := rfl
theorem lC46 : 46 < (wC D cy aa ad).2.2.2.1 := Nat.le_of_ble_eq_true rfl
theorem eC47 (x : Int → Int) : wE (wC D cy aa ad) 47 x = .inr (4, [.ref (aa 48), .ref (aa 49), .ref (aa 50), .int (iz (x 3))]) := rfl
theorem lC47 : 47 < (wC D cy aa ad).2.2.2.1 := Nat.le_of_ble_eq_true rfl
theorem eC48 (x : Int → Int) : wE (wC D cy aa ad) 48 x = eI cy 8 x := rfl
theorem lC48 : 48 < (wC D cy aa ad).2.2.2.1 := Nat.le_of_ble_eq_true rfl
theorem eC49 (x : Int → Int) : wE (wC D cy aa ad) 49 x = eI cy 8 x := rfl
theorem lC49 : 49 < (wC D cy aa ad).2.2.2.1 := Nat.le_of_ble_eq_true rfl
theorem eC50 (x : Int → Int) : wE (wC D cy aa ad) 50 x = eI cy 8 x := rfl
theorem lC50 : 50 < (wC D cy aa ad).2.2.2.1 := Nat.le_of_ble_eq_true rfl
theorem eC51 (x : Int → Int) : wE (wC D cy aa ad) 51 x = .inr (4, [.ref (aa 52), .ref (aa 53), .ref (aa 54), .int (iz (x 3))]) := rfl
theorem lC51 : 51 < (wC D cy aa ad).2.2.2.1 := Nat.le_of_ble_eq_true rfl
theorem eC52 (x : Int → Int) : wE (wC D cy aa ad) 52 x = eI cy 8 x := rfl
theorem lC52 : 52 < (wC D cy aa ad).2.2.2.1 := Nat.le_of_ble_eq_true rfl
theorem eC53 (x : Int → Int) : wE (wC D cy aa ad) 53 x = eI cy 8 x := rfl
theorem lC53 : 53 < (wC D cy aa ad).2.2.2.1 := Nat.le_of_ble_eq_true rfl
theorem eC54 (x : Int → Int) : wE (wC D cy aa ad) 54 x = eI cy 8 x := rfl
theorem lC54 : 54 < (wC D cy aa ad).2.2.2.1 := Nat.le_of_ble_eq_true rfl
theorem eC55 (x : Int → Int) : wE (wC D cy aa ad) 55 x = .inr (4, [.ref (aa 56), .ref (aa 57), .ref (aa 58), .int (iz (x 3))]) := rfl
theorem lC55 : 55 < (wC D cy aa ad).2.2.2.1 := Nat.le_of_ble_eq_true rfl
theorem eC56 (x : Int → Int) : wE (wC D cy aa ad) 56 x = eI cy 8 x := rfl
theorem lC56 : 56 < (wC D cy aa ad).2.2.2.1 := Nat.le_of_ble_eq_true rfl
theorem eC57 (x : Int → Int) : wE (wC D cy aa ad) 57 x = eI cy 8 x := rfl
theorem lC57 : 57 < (wC D cy aa ad).2.2.2.1 := Nat.le_of_ble_eq_true rfl
theorem eC58 (x : Int → Int) : wE (wC D cy aa ad) 58 x = eI cy 8 x := rfl
theorem lC58 : 58 < (wC D cy aa ad).2.2.2.1 := Nat.le_of_ble_eq_true rfl
theorem eC59 (x : Int → Int) : wE (wC D cy aa ad) 59 x = .inr (2, [.ref (aa 60), .ref (aa 61), .ref (aa 62), .ref (aa 63), .ref (aa 64), .ref (aa 65), .ref (aa 51), .int (iz (x 7)), .int (iz (x 8)), .int (iz (x 9))]) := rfl
theorem lC59 : 59 < (wC D cy aa ad).2.2.2.1 := Nat.le_of_ble_eq_true rfl
theorem eC60 (x : Int → Int) : wE (wC D cy aa ad) 60 x = eI cy 51 x := rfl
theorem lC60 : 60 < (wC D cy aa ad).2.2.2.1 := Nat.le_of_ble_eq_true rfl
theorem eC61 (x : Int → Int) : wE (wC D cy aa ad) 61 x = eI cy 51 x := rfl
theorem lC61 : 61 < (wC D cy aa ad).2.2.2.1 := Nat.le_of_ble_eq_true rfl
theorem eC62 (x : Int → Int) : wE (wC D cy aa ad) 62 x = eI cy 51 x := rfl
theorem lC62 : 62 < (wC D cy aa ad).2.2.2.1 := Nat.le_of_ble_eq_true rfl
theorem eC63 (x : Int → Int) : wE (wC D cy aa ad) 63 x = eI cy 51 x := rfl
theorem lC63 : 63 < (wC D cy aa ad).2.2.2.1 := Nat.le_of_ble_eq_true rfl
theorem eC64 (x : Int → Int) : wE (wC D cy aa ad) 64 x = eI cy 51 x := rfl
theorem lC64 : 64 < (wC D cy aa ad).2.2.2.1 := Nat.le_of_ble_eq_true rfl
theorem eC65 (x : Int → Int) : wE (wC D cy aa ad) 65 x = eI cy 51 x := rfl
theorem lC65 : 65 < (wC D cy aa ad).2.2.2.1 := Nat.le_of_ble_eq_true rfl
theorem eC66 (x : Int → Int) : wE (wC D cy aa ad) 66 x = .inr (2, [.ref (aa 67), .ref (aa 68), .ref (aa 69), .ref (aa 70), .ref (aa 71), .ref (aa 72), .ref (aa 55), .int (iz (x 7)), .int (iz (x 8)), .int (iz (x 9))]) := rfl
theorem lC66 : 66 < (wC D cy aa ad).2.2.2.1 := Nat.le_of_ble_eq_true rfl
theorem eC67 (x : Int → Int) : wE (wC D cy aa ad) 67 x = eI cy 51 x := rfl
theorem lC67 : 67 < (wC D cy aa ad).2.2.2.1 := Nat.le_of_ble_eq_true rfl
theorem eC68 (x : Int → Int) : wE (wC D cy aa ad) 68 x = eI cy 51 x := rfl
theorem lC68 : 68 < (wC D cy aa ad).2.2.2.1 := Nat.le_of_ble_eq_true rfl
theorem eC69 (x : Int → Int) : wE (wC D cy aa ad) 69 x = eI cy 51 x := rfl
theorem lC69 : 69 < (wC D cy aa ad).2.2.2.1 := Nat.le_of_ble_eq_true rfl
theorem eC70 (x : Int → Int) : wE (wC D cy aa ad) 70 x = eI cy 51 x := rfl
theorem lC70 : 70 < (wC D cy aa ad).2.2.2.1 := Nat.le_of_ble_eq_true rfl
theorem eC71 (x : Int → Int) : wE (wC D cy aa ad) 71 x = eI cy 51 x := rfl
theorem lC71 : 71 < (wC D cy aa ad).2.2.2.1 := Nat.le_of_ble_eq_true rfl
theorem eC72 (x : Int → Int) : wE (wC D cy aa ad) 72 x = eI cy 51 x := rfl
theorem lC72 : 72 < (wC D cy aa ad).2.2.2.1 := Nat.le_of_ble_eq_true rfl
theorem eC73 (x : Int → Int) : wE (wC D cy aa ad) 73 x = .inr (6, [.int (iz (x 0)), .int (iz (x 1)), .int (iz (x 2)), .int (iz (x 3)), .int (iz (x 4)), .int (iz (x 5)), .int (iz (x 6)), .ref (aa 74), .ref (aa 75), .ref (aa 76), .ref (aa 77)]) := rfl
theorem lC73 : 73 < (wC D cy aa ad).2.2.2.1 := Nat.le_of_ble_eq_true rfl
theorem eC74 (x : Int → Int) : wE (wC D cy aa ad) 74 x = eI cy 27 x := rfl
theorem lC74 : 74 < (wC D cy aa ad).2.2.2.1 := Nat.le_of_ble_eq_true rfl
theorem eC75 (x : Int → Int) : wE (wC D cy aa ad) 75 x = eI cy 6 x := rfl
theorem lC75 : 75 < (wC D cy aa ad).2.2.2.1 := Nat.le_of_ble_eq_true rfl
theorem eC76 (x : Int → Int) : wE (wC D cy aa ad) 76 x = eI cy 6 x := rfl
theorem lC76 : 76 < (wC D cy aa ad).2.2.2.1 := Nat.le_of_ble_eq_true rfl
theorem eC77 (x : Int → Int) : wE (wC D cy aa ad) 77 x = eI cy 6 x := rfl
theorem lC77 : 77 < (wC D cy aa ad).2.2.2.1 := Nat.le_of_ble_eq_true rfl
theorem eC78 (x : Int → Int) : wE (wC D cy aa ad) 78 x = .inr (6, [.int (iz (x 0)), .int (iz (x 1)), .int (iz (x 2)), .int (iz (x 3)), .int (iz (x 4)), .int (iz (x 5)), .int (iz (x 6)), .ref (aa 79), .ref (aa 80), .ref (aa 81), .ref (aa 82)]) := rfl
theorem lC78 : 78 < (wC D cy aa ad).2.2.2.1 := Nat.le_of_ble_eq_true rfl
theorem eC79 (x : Int → Int) : wE (wC D cy aa ad) 79 x = eI cy 27 x := rfl
theorem lC79 : 79 < (wC D cy aa ad).2.2.2.1 := Nat.le_of_ble_eq_true rfl
theorem eC80 (x : Int → Int) : wE (wC D cy aa ad) 80 x = eI cy 6 x := rfl
theorem lC80 : 80 < (wC D cy aa ad).2.2.2.1 := Nat.le_of_ble_eq_true rfl
theorem eC81 (x : Int → Int) : wE (wC D cy aa ad) 81 x = eI cy 6 x := rfl
theorem lC81 : 81 < (wC D cy aa ad).2.2.2.1 := Nat.le_of_ble_eq_true rfl
theorem eC82 (x : Int → Int) : wE (wC D cy aa ad) 82 x = eI cy 6 x := rfl
theorem lC82 : 82 < (wC D cy aa ad).2.2.2.1 := Nat.le_of_ble_eq_true rfl
def RatioAt (o b p r : Nat) : Prop := b = o + 1 ∧ p = o + 2 ∧ r = o + 3 ∧ (o = 31 ∨ o = 35 ∨ o = 39 ∨ o = 43 ∨ o = 47 ∨ o = 51 ∨ o = 55)
theorem RatioAt.e0 {o b p r : Nat} (h : RatioAt o b p r) (x : Int → Int) : wE (wC D cy aa ad) o x = .inr (4, [.ref (aa b), .ref (aa p), .ref (aa r), .int (iz (x 3))]) := by
  obtain ⟨rfl, rfl, rfl, rfl | rfl | rfl | rfl | rfl | rfl | rfl⟩ := h <;> rfl
theorem RatioAt.l0 {o b p r : Nat} (h : RatioAt o b p r) : o < (wC D cy aa ad).2.2.2.1 := by
  show o < 83
  unfold RatioAt at h; omega
theorem RatioAt.e1 {o b p r : Nat} (h : RatioAt o b p r) (x : Int → Int) : wE (wC D cy aa ad) b x = eI cy 8 x := by
  obtain ⟨rfl, rfl, rfl, rfl | rfl | rfl | rfl | rfl | rfl | rfl⟩ := h <;> rfl
theorem RatioAt.l1 {o b p r : Nat} (h : RatioAt o b p r) : b < (wC D cy aa ad).2.2.2.1 := by
  show b < 83
  unfold RatioAt at h; omega
theorem RatioAt.e2 {o b p r : Nat} (h : RatioAt o b p r) (x : Int → Int) : wE (wC D cy aa ad) p x = eI cy 8 x := by
  obtain ⟨rfl, rfl, rfl, rfl | rfl | rfl | rfl | rfl | rfl | rfl⟩ := h <;> rfl
theorem RatioAt.l2 {o b p r : Nat} (h : RatioAt o b p r) : p < (wC D cy aa ad).2.2.2.1 := by
  show p < 83
  unfold RatioAt at h; omega
theorem RatioAt.e3 {o b p r : Nat} (h : RatioAt o b p r) (x : Int → Int) : wE (wC D cy aa ad) r x = eI cy 8 x := by
  obtain ⟨rfl, rfl, rfl, rfl | rfl | rfl | rfl | rfl | rfl | rfl⟩ := h <;> rfl
theorem RatioAt.l3 {o b p r : Nat} (h : RatioAt o b p r) : r < (wC D cy aa ad).2.2.2.1 := by
  show r < 83
  unfold RatioAt at h; omega
def WeightsAt (o u t e : Nat) : Prop := u = o + 1 ∧ t = o + 2 ∧ e = o + 3 ∧ (o = 19 ∨ o = 23 ∨ o = 27)
theorem WeightsAt.e0 {o u t e : Nat} (h : WeightsAt o u t e) (x : Int → Int) : wE (wC D cy aa ad) o x = .inr (9, [.ref (aa u), .ref (aa t), .ref (aa e), .int (iz (x 3))]) := by
  obtain ⟨rfl, rfl, rfl, rfl | rfl | rfl⟩ := h <;> rfl
theorem WeightsAt.l0 {o u t e : Nat} (h : WeightsAt o u t e) : o < (wC D cy aa ad).2.2.2.1 := by
  show o < 83
  unfold WeightsAt at h; omega
theorem WeightsAt.e1 {o u t e : Nat} (h : WeightsAt o u t e) (x : Int → Int) : wE (wC D cy aa ad) u x = eI cy 3 x := by
  obtain ⟨rfl, rfl, rfl, rfl | rfl | rfl⟩ := h <;> rfl
theorem WeightsAt.l1 {o u t e : Nat} (h : WeightsAt o u t e) : u < (wC D cy aa ad).2.2.2.1 := by
  show u < 83
  unfold WeightsAt at h; omega
theorem WeightsAt.e2 {o u t e : Nat} (h : WeightsAt o u t e) (x : Int → Int) : wE (wC D cy aa ad) t x = eI cy 3 x := by
  obtain ⟨rfl, rfl, rfl, rfl | rfl | rfl⟩ := h <;> rfl
theorem WeightsAt.l2 {o u t e : Nat} (h : WeightsAt o u t e) : t < (wC D cy aa ad).2.2.2.1 := by
  show t < 83
  unfold WeightsAt at h; omega
theorem WeightsAt.e3 {o u t e : Nat} (h : WeightsAt o u t e) (x : Int → Int) : wE (wC D cy aa ad) e x = eI cy 3 x := by
  obtain ⟨rfl, rfl, rfl, rfl | rfl | rfl⟩ := h <;> rfl
theorem WeightsAt.l3 {o u t e : Nat} (h : WeightsAt o u t e) : e < (wC D cy aa ad).2.2.2.1 := by
  show e < 83
  unfold WeightsAt at h; omega
def RocketAt (k kf ks kt kc : Nat) : Prop := kf = k + 1 ∧ ks = k + 2 ∧ kt = k + 3 ∧ kc = k + 4 ∧ (k = 73 ∨ k = 78)
theorem RocketAt.e0 {k kf ks kt kc : Nat} (h : RocketAt k kf ks kt kc) (x : Int → Int) : wE (wC D cy aa ad) k x = .inr (6, [.int (iz (x 0)), .int (iz (x 1)), .int (iz (x 2)), .int (iz (x 3)), .int (iz (x 4)), .int (iz (x 5)), .int (iz (x 6)), .ref (aa kf), .ref (aa ks), .ref (aa kt), .ref (aa kc)]) := by
  obtain ⟨rfl, rfl, rfl, rfl, rfl | rfl⟩ := h <;> rfl
theorem RocketAt.l0 {k kf ks kt kc : Nat} (h : RocketAt k kf ks kt kc) : k < (wC D cy aa ad).2.2.2.1 := by
  show k < 83
  unfold RocketAt at h; omega
theorem RocketAt.e1 {k kf ks kt kc : Nat} (h : RocketAt k kf ks kt kc) (x : Int → Int) : wE (wC D cy aa ad) kf x = eI cy 27 x := by
  obtain ⟨rfl, rfl, rfl, rfl, rfl | rfl⟩ := h <;> rfl
theorem RocketAt.l1 {k kf ks kt kc : Nat} (h : RocketAt k kf ks kt kc) : kf < (wC D cy aa ad).2.2.2.1 := by
  show kf < 83
  unfold RocketAt at h; omega
theorem RocketAt.e2 {k kf ks kt kc : Nat} (h : RocketAt k kf ks kt kc) (x : Int → Int) : wE (wC D cy aa ad) ks x = eI cy 6 x := by
  obtain ⟨rfl, rfl, rfl, rfl, rfl | rfl⟩ := h <;> rfl
theorem RocketAt.l2 {k kf ks kt kc : Nat} (h : RocketAt k kf ks kt kc) : ks < (wC D cy aa ad).2.2.2.1 := by
  show ks < 83
  unfold RocketAt at h; omega
theorem RocketAt.e3 {k kf ks kt kc : Nat} (h : RocketAt k kf ks kt kc) (x : Int → Int) : wE (wC D cy aa ad) kt x = eI cy 6 x := by
  obtain ⟨rfl, rfl, rfl, rfl, rfl | rfl⟩ := h <;> rfl
theorem RocketAt.l3 {k kf ks kt kc : Nat} (h : RocketAt k kf ks kt kc) : kt < (wC D cy aa ad).2.2.2.1 := by
  show kt < 83
  unfold RocketAt at h; omega
theorem RocketAt.e4 {k kf ks kt kc : Nat} (h : RocketAt k kf ks kt kc) (x : Int → Int) : wE (wC D cy aa ad) kc x = eI cy 6 x := by
  obtain ⟨rfl, rfl, rfl, rfl, rfl | rfl⟩ := h <;> rfl
theorem RocketAt.l4 {k kf ks kt kc : Nat} (h : RocketAt k kf ks kt kc) : kc < (wC D cy aa ad).2.2.2.1 := by
  show kc < 83
  unfold RocketAt at h; omega
def BigAt (g gl : Nat) : Prop := gl = g + 1 ∧ (g = 15 ∨ g = 17)
theorem BigAt.e0 {g gl : Nat} (h : BigAt g gl) (x : Int → Int) : wE (wC D cy aa ad) g x = .inr (0, [.ref (aa gl), .int (iz (x 1))]) := by
  obtain ⟨rfl, rfl | rfl⟩ := h <;> rfl
theorem BigAt.l0 {g gl : Nat} (h : BigAt g gl) : g < (wC D cy aa ad).2.2.2.1 := by
  show g < 83
  unfold BigAt at h; omega
theorem BigAt.e1 {g gl : Nat} (h : BigAt g gl) (x : Int → Int) : wE (wC D cy aa ad) gl x = eL cy 16 x := by
  obtain ⟨rfl, rfl | rfl⟩ := h <;> rfl
theorem BigAt.l1 {g gl : Nat} (h : BigAt g gl) : gl < (wC D cy aa ad).2.2.2.1 := by
  show gl < 83
  unfold BigAt at h; omega
def FlightAt (f fs ft fa fb fr fp o b p r : Nat) : Prop := fs = f + 1 ∧ ft = f + 2 ∧ fa = f + 3 ∧ fb = f + 4 ∧ fr = f + 5 ∧ fp = f + 6 ∧ ((f = 59 ∧ o = 51) ∨ (f = 66 ∧ o = 55)) ∧ b = o + 1 ∧ p = o + 2 ∧ r = o + 3
theorem FlightAt.e0 {f fs ft fa fb fr fp o b p r : Nat} (h : FlightAt f fs ft fa fb fr fp o b p r) (x : Int → Int) : wE (wC D cy aa ad) f x = .inr (2, [.ref (aa fs), .ref (aa ft), .ref (aa fa), .ref (aa fb), .ref (aa fr), .ref (aa fp), .ref (aa o), .int (iz (x 7)), .int (iz (x 8)), .int (iz (x 9))]) := by
  obtain ⟨rfl, rfl, rfl, rfl, rfl, rfl, ⟨rfl, rfl⟩ | ⟨rfl, rfl⟩, rfl, rfl, rfl⟩ := h <;> rfl
theorem FlightAt.l0 {f fs ft fa fb fr fp o b p r : Nat} (h : FlightAt f fs ft fa fb fr fp o b p r) : f < (wC D cy aa ad).2.2.2.1 := by
  show f < 83
  unfold FlightAt at h; omega
theorem FlightAt.e1 {f fs ft fa fb fr fp o b p r : Nat} (h : FlightAt f fs ft fa fb fr fp o b p r) (x : Int → Int) : wE (wC D cy aa ad) fs x = eI cy 51 x := by
  obtain ⟨rfl, rfl, rfl, rfl, rfl, rfl, ⟨rfl, rfl⟩ | ⟨rfl, rfl⟩, rfl, rfl, rfl⟩ := h <;> rfl
theorem FlightAt.l1 {f fs ft fa fb fr fp o b p r : Nat} (h : FlightAt f fs ft fa fb fr fp o b p r) : fs < (wC D cy aa ad).2.2.2.1 := by
  show fs < 83
  unfold FlightAt at h; omega
theorem FlightAt.e2 {f fs ft fa fb fr fp o b p r : Nat} (h : FlightAt f fs ft fa fb fr fp o b p r) (x : Int → Int) : wE (wC D cy aa ad) ft x = eI cy 51 x := by
  obtain ⟨rfl, rfl, rfl, rfl, rfl, rfl, ⟨rfl, rfl⟩ | ⟨rfl, rfl⟩, rfl, rfl, rfl⟩ := h <;> rfl
theorem FlightAt.l2 {f fs ft fa fb fr fp o b p r : Nat} (h : FlightAt f fs ft fa fb fr fp o b p r) : ft < (wC D cy aa ad).2.2.2.1 := by
  show ft < 83
  unfold FlightAt at h; omega
theorem FlightAt.e3 {f fs ft fa fb fr fp o b p r : Nat} (h : FlightAt f fs ft fa fb fr fp o b p r) (x : Int → Int) : wE (wC D cy aa ad) fa x = eI cy 51 x := by
  obtain ⟨rfl, rfl, rfl, rfl, rfl, rfl, ⟨rfl, rfl⟩ | ⟨rfl, rfl⟩, rfl, rfl, rfl⟩ := h <;> rfl
theorem FlightAt.l3 {f fs ft fa fb fr fp o b p r : Nat} (h : FlightAt f fs ft fa fb fr fp o b p r) : fa < (wC D cy aa ad).2.2.2.1 := by
  show fa < 83
  unfold FlightAt at h; omega
theorem FlightAt.e4 {f fs ft fa fb fr fp o b p r : Nat} (h : FlightAt f fs ft fa fb fr fp o b p r) (x : Int → Int) : wE (wC D cy aa ad) fb x = eI cy 51 x := by
  obtain ⟨rfl, rfl, rfl, rfl, rfl, rfl, ⟨rfl, rfl⟩ | ⟨rfl, rfl⟩, rfl, rfl, rfl⟩ := h <;> rfl
theorem FlightAt.l4 {f fs ft fa fb fr fp o b p r : Nat} (h : FlightAt f fs ft fa fb fr fp o b p r) : fb < (wC D cy aa ad).2.2.2.1 := by
  show fb < 83
  unfold FlightAt at h; omega
theorem FlightAt.e5 {f fs ft fa fb fr fp o b p r : Nat} (h : FlightAt f fs ft fa fb fr fp o b p r) (x : Int → Int) : wE (wC D cy aa ad) fr x = eI cy 51 x := by
  obtain ⟨rfl, rfl, rfl, rfl, rfl, rfl, ⟨rfl, rfl⟩ | ⟨rfl, rfl⟩, rfl, rfl, rfl⟩ := h <;> rfl
theorem FlightAt.l5 {f fs ft fa fb fr fp o b p r : Nat} (h : FlightAt f fs ft fa fb fr fp o b p r) : fr < (wC D cy aa ad).2.2.2.1 := by
  show fr < 83
  unfold FlightAt at h; omega
theorem FlightAt.e6 {f fs ft fa fb fr fp o b p r : Nat} (h : FlightAt f fs ft fa fb fr fp o b p r) (x : Int → Int) : wE (wC D cy aa ad) fp x = eI cy 51 x := by
  obtain ⟨rfl, rfl, rfl, rfl, rfl, rfl, ⟨rfl, rfl⟩ | ⟨rfl, rfl⟩, rfl, rfl, rfl⟩ := h <;> rfl
theorem FlightAt.l6 {f fs ft fa fb fr fp o b p r : Nat} (h : FlightAt f fs ft fa fb fr fp o b p r) : fp < (wC D cy aa ad).2.2.2.1 := by
  show fp < 83
  unfold FlightAt at h; omega
theorem FlightAt.e7 {f fs ft fa fb fr fp o b p r : Nat} (h : FlightAt f fs ft fa fb fr fp o b p r) (x : Int → Int) : wE (wC D cy aa ad) o x = .inr (4, [.ref (aa b), .ref (aa p), .ref (aa r), .int (iz (x 3))]) := by
  obtain ⟨rfl, rfl, rfl, rfl, rfl, rfl, ⟨rfl, rfl⟩ | ⟨rfl, rfl⟩, rfl, rfl, rfl⟩ := h <;> rfl
theorem FlightAt.l7 {f fs ft fa fb fr fp o b p r : Nat} (h : FlightAt f fs ft fa fb fr fp o b p r) : o < (wC D cy aa ad).2.2.2.1 := by
  show o < 83
  unfold FlightAt at h; omega
theorem FlightAt.e8 {f fs ft fa fb fr fp o b p r : Nat} (h : FlightAt f fs ft fa fb fr fp o b p r) (x : Int → Int) : wE (wC D cy aa ad) b x = eI cy 8 x := by
  obtain ⟨rfl, rfl, rfl, rfl, rfl, rfl, ⟨rfl, rfl⟩ | ⟨rfl, rfl⟩, rfl, rfl, rfl⟩ := h <;> rfl
theorem FlightAt.l8 {f fs ft fa fb fr fp o b p r : Nat} (h : FlightAt f fs ft fa fb fr fp o b p r) : b < (wC D cy aa ad).2.2.2.1 := by
  show b < 83
  unfold FlightAt at h; omega
theorem FlightAt.e9 {f fs ft fa fb fr fp o b p r : Nat} (h : FlightAt f fs ft fa fb fr fp o b p r) (x : Int → Int) : wE (wC D cy aa ad) p x = eI cy 8 x := by
  obtain ⟨rfl, rfl, rfl, rfl, rfl, rfl, ⟨rfl, rfl⟩ | ⟨rfl, rfl⟩, rfl, rfl, rfl⟩ := h <;> rfl
theorem FlightAt.l9 {f fs ft fa fb fr fp o b p r : Nat} (h : FlightAt f fs ft fa fb fr fp o b p r) : p < (wC D cy aa ad).2.2.2.1 := by
  show p < 83
  unfold FlightAt at h; omega
theorem FlightAt.e10 {f fs ft fa fb fr fp o b p r : Nat} (h : FlightAt f fs ft fa fb fr fp o b p r) (x : Int → Int) : wE (wC D cy aa ad) r x = eI cy 8 x := by
  obtain ⟨rfl, rfl, rfl, rfl, rfl, rfl, ⟨rfl, rfl⟩ | ⟨rfl, rfl⟩, rfl, rfl, rfl⟩ := h <;> rfl
theorem FlightAt.l10 {f fs ft fa fb fr fp o b p r : Nat} (h : FlightAt f fs ft fa fb fr fp o b p r) : r < (wC D cy aa ad).2.2.2.1 := by
  show r < 83
  unfold FlightAt at h; omega
end WC
def cFR : (Nat → ClassId) → (Nat → Nat) → Nat → (Int → Int) → va_E := fun cy aa k r => match k with
  | 0 => .inr (11, [.int (iz (r 0)), .int (iz (r 1)), .int (iz (r 2)), .ref (aa 1), .ref (aa 2), .ref (aa 3), .ref (aa 4), .ref (aa 5), .int (iz (r 8)), .int (iz (r 9)), .int (iz (r 10)), .int (iz (r 11)), .int (iz (r 12)), .int (iz (r 13)), .int (iz (r 14)), .int (iz (r 15)), .int (iz (r 16)), .int (iz (r 17)), .int (iz (r 18)), .int (iz (r 19)), .int (iz (r 20)), .ref (aa 6), .ref (aa 7), .int (iz (r 23)), .ref (aa 8), .int (iz (r 25)), .int (iz (r 26)), .int (iz (r 27)), .int (iz (r 28)), .int (iz (r 29)), .int (iz (r 30)), .int (iz (r 31)), .long (lz (r 32)), .ref (aa 9), .int (iz (r 34)), .ref (aa 10), .ref (aa 11), .int (iz (r 37)), .int (iz (r 38)), .ref (aa 12), .ref (aa 13), .ref (aa 14), .ref (aa 15), .int (iz (r 43)), .int (iz (r 44)), .int (iz (r 45)), .int (iz (r 46)), .ref (aa 16), .ref (aa 17), .ref (aa 18), .ref (aa 19), .int (iz (r 51)), .ref (aa 20), .ref (aa 21), .ref (aa 22), .ref (aa 23), .ref (aa 24), .ref (aa 25), .int (iz (r 58)), .int (iz (r 59)), .int (iz (r 60))])
  | 1 => eI cy 27 r
  | 2 => eI cy 18 r
  | 3 => eI cy 27 r
  | 4 => eI cy 18 r
  | 5 => eL cy 3 r
  | 6 => eI cy 11 r
  | 7 => eI cy 110 r
  | 8 => eB cy 700 r
  | 9 => eI cy 3 r
  | 10 => eI cy 240 r
  | 11 => eI cy 240 r
  | 12 => eI cy 400 r
  | 13 => eI cy 3 r
  | 14 => eI cy 3 r
  | 15 => eI cy 3 r
  | 16 => eI cy 1536 r
  | 17 => eI cy 512 r
  | 18 => eI cy 3 r
  | 19 => eZ cy 512 r
  | 20 => eI cy 64 r
  | 21 => eI cy 64 r
  | 22 => eI cy 64 r
  | 23 => eI cy 64 r
  | 24 => eI cy 64 r
  | _ => eI cy 64 r
abbrev wR (D : va_G) (cy : Nat → ClassId) (aa ad : Nat → Nat) : Wd := (D, cy, aa, 26, cFR, ad)
section WR
variable {D : va_G} {cy : Nat → ClassId} {aa ad : Nat → Nat}
theorem eR0 (x : Int → Int) : wE (wR D cy aa ad) 0 x = .inr (11, [.int (iz (x 0)), .int (iz (x 1)), .int (iz (x 2)), .ref (aa 1), .ref (aa 2), .ref (aa 3), .ref (aa 4), .ref (aa 5), .int (iz (x 8)), .int (iz (x 9)), .int (iz (x 10)), .int (iz (x 11)), .int (iz (x 12)), .int (iz (x 13)), .int (iz (x 14)), .int (iz (x 15)), .int (iz (x 16)), .int (iz (x 17)), .int (iz (x 18)), .int (iz (x 19)), .int (iz (x 20)), .ref (aa 6), .ref (aa 7), .int (iz (x 23)), .ref (aa 8), .int (iz (x 25)), .int (iz (x 26)), .int (iz (x 27)), .int (iz (x 28)), .int (iz (x 29)), .int (iz (x 30)), .int (iz (x 31)), .long (lz (x 32)), .ref (aa 9), .int (iz (x 34)), .ref (aa 10), .ref (aa 11), .int (iz (x 37)), .int (iz (x 38)), .ref (aa 12), .ref (aa 13), .ref (aa 14), .ref (aa 15), .int (iz (x 43)), .int (iz (x 44)), .int (iz (x 45)), .int (iz (x 46)), .ref (aa 16), .ref (aa 17), .ref (aa 18), .ref (aa 19), .int (iz (x 51)), .ref (aa 20), .ref (aa 21), .ref (aa 22), .ref (aa 23), .ref (aa 24), .ref (aa 25), .int (iz (x 58)), .int (iz (x 59)), .int (iz (x 60))]) := rfl
theorem lR0 : 0 < (wR D cy aa ad).2.2.2.1 := Nat.le_of_ble_eq_true rfl
theorem eR1 (x : Int → Int) : wE (wR D cy aa ad) 1 x = eI cy 27 x := rfl
theorem lR1 : 1 < (wR D cy aa ad).2.2.2.1 := Nat.le_of_ble_eq_true rfl
theorem eR2 (x : Int → Int) : wE (wR D cy aa ad) 2 x = eI cy 18 x := rfl
theorem lR2 : 2 < (wR D cy aa ad).2.2.2.1 := Nat.le_of_ble_eq_true rfl
theorem eR3 (x : Int → Int) : wE (wR D cy aa ad) 3 x = eI cy 27 x := rfl
theorem lR3 : 3 < (wR D cy aa ad).2.2.2.1 := Nat.le_of_ble_eq_true rfl
theorem eR4 (x : Int → Int) : wE (wR D cy aa ad) 4 x = eI cy 18 x := rfl
theorem lR4 : 4 < (wR D cy aa ad).2.2.2.1 := Nat.le_of_ble_eq_true rfl
theorem eR5 (x : Int → Int) : wE (wR D cy aa ad) 5 x = eL cy 3 x := rfl
theorem lR5 : 5 < (wR D cy aa ad).2.2.2.1 := Nat.le_of_ble_eq_true rfl
theorem eR6 (x : Int → Int) : wE (wR D cy aa ad) 6 x = eI cy 11 x := rfl
theorem lR6 : 6 < (wR D cy aa ad).2.2.2.1 := Nat.le_of_ble_eq_true rfl
theorem eR7 (x : Int → Int) : wE (wR D cy aa ad) 7 x = eI cy 110 x := rfl
theorem lR7 : 7 < (wR D cy aa ad).2.2.2.1 := Nat.le_of_ble_eq_true rfl
theorem eR8 (x : Int → Int) : wE (wR D cy aa ad) 8 x = eB cy 700 x := rfl
theorem lR8 : 8 < (wR D cy aa ad).2.2.2.1 := Nat.le_of_ble_eq_true rfl
theorem eR9 (x : Int → Int) : wE (wR D cy aa ad) 9 x = eI cy 3 x := rfl
theorem lR9 : 9 < (wR D cy aa ad).2.2.2.1 := Nat.le_of_ble_eq_true rfl
theorem eR10 (x : Int → Int) : wE (wR D cy aa ad) 10 x = eI cy 240 x := rfl
theorem lR10 : 10 < (wR D cy aa ad).2.2.2.1 := Nat.le_of_ble_eq_true rfl
theorem eR11 (x : Int → Int) : wE (wR D cy aa ad) 11 x = eI cy 240 x := rfl
theorem lR11 : 11 < (wR D cy aa ad).2.2.2.1 := Nat.le_of_ble_eq_true rfl
theorem eR12 (x : Int → Int) : wE (wR D cy aa ad) 12 x = eI cy 400 x := rfl
theorem lR12 : 12 < (wR D cy aa ad).2.2.2.1 := Nat.le_of_ble_eq_true rfl
theorem eR13 (x : Int → Int) : wE (wR D cy aa ad) 13 x = eI cy 3 x := rfl
theorem lR13 : 13 < (wR D cy aa ad).2.2.2.1 := Nat.le_of_ble_eq_true rfl
theorem eR14 (x : Int → Int) : wE (wR D cy aa ad) 14 x = eI cy 3 x := rfl
theorem lR14 : 14 < (wR D cy aa ad).2.2.2.1 := Nat.le_of_ble_eq_true rfl
theorem eR15 (x : Int → Int) : wE (wR D cy aa ad) 15 x = eI cy 3 x := rfl
theorem lR15 : 15 < (wR D cy aa ad).2.2.2.1 := Nat.le_of_ble_eq_true rfl
theorem eR16 (x : Int → Int) : wE (wR D cy aa ad) 16 x = eI cy 1536 x := rfl
theorem lR16 : 16 < (wR D cy aa ad).2.2.2.1 := Nat.le_of_ble_eq_true rfl
theorem eR17 (x : Int → Int) : wE (wR D cy aa ad) 17 x = eI cy 512 x := rfl
theorem lR17 : 17 < (wR D cy aa ad).2.2.2.1 := Nat.le_of_ble_eq_true rfl
theorem eR18 (x : Int → Int) : wE (wR D cy aa ad) 18 x = eI cy 3 x := rfl
theorem lR18 : 18 < (wR D cy aa ad).2.2.2.1 := Nat.le_of_ble_eq_true rfl
theorem eR19 (x : Int → Int) : wE (wR D cy aa ad) 19 x = eZ cy 512 x := rfl
theorem lR19 : 19 < (wR D cy aa ad).2.2.2.1 := Nat.le_of_ble_eq_true rfl
theorem eR20 (x : Int → Int) : wE (wR D cy aa ad) 20 x = eI cy 64 x := rfl
theorem lR20 : 20 < (wR D cy aa ad).2.2.2.1 := Nat.le_of_ble_eq_true rfl
theorem eR21 (x : Int → Int) : wE (wR D cy aa ad) 21 x = eI cy 64 x := rfl
theorem lR21 : 21 < (wR D cy aa ad).2.2.2.1 := Nat.le_of_ble_eq_true rfl
theorem eR22 (x : Int → Int) : wE (wR D cy aa ad) 22 x = eI cy 64 x := rfl
theorem lR22 : 22 < (wR D cy aa ad).2.2.2.1 := Nat.le_of_ble_eq_true rfl
theorem eR23 (x : Int → Int) : wE (wR D cy aa ad) 23 x = eI cy 64 x := rfl
theorem lR23 : 23 < (wR D cy aa ad).2.2.2.1 := Nat.le_of_ble_eq_true rfl
theorem eR24 (x : Int → Int) : wE (wR D cy aa ad) 24 x = eI cy 64 x := rfl
theorem lR24 : 24 < (wR D cy aa ad).2.2.2.1 := Nat.le_of_ble_eq_true rfl
theorem eR25 (x : Int → Int) : wE (wR D cy aa ad) 25 x = eI cy 64 x := rfl
theorem lR25 : 25 < (wR D cy aa ad).2.2.2.1 := Nat.le_of_ble_eq_true rfl
end WR
