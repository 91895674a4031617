section
/-- the reference while it is made: n of its arrays are there -/
def mqo (r : Nat) (v : Nat → Int32) : Nat → List Value
  | 0 => [.int (v 0), .int (v 1), .null, .null, .null, .null, .null, .null, .null, .null, .null, .null, .null, .null, .null, .null, .null, .null, .null, .null, .int (v 20), .null, .null, .null, .null, .null, .int (v 26), .int (v 27), .null, .null, .null, .null, .null, .int (v 33), .int (v 34), .null, .null, .null, .null, .null, .null, .int (v 41), .int (v 42), .int (v 43), .null, .int (v 45), .null, .int (v 47), .null, .null]
  | 1 => [.int (v 0), .int (v 1), .ref (r + 1), .null, .null, .null, .null, .null, .null, .null, .null, .null, .null, .null, .null, .null, .null, .null, .null, .null, .int (v 20), .null, .null, .null, .null, .null, .int (v 26), .int (v 27), .null, .null, .null, .null, .null, .int (v 33), .int (v 34), .null, .null, .null, .null, .null, .null, .int (v 41), .int (v 42), .int (v 43), .null, .int (v 45), .null, .int (v 47), .null, .null]
  | 2 => [.int (v 0), .int (v 1), .ref (r + 1), .ref (r + 2), .null, .null, .null, .null, .null, .null, .null, .null, .null, .null, .null, .null, .null, .null, .null, .null, .int (v 20), .null, .null, .null, .null, .null, .int (v 26), .int (v 27), .null, .null, .null, .null, .null, .int (v 33), .int (v 34), .null, .null, .null, .null, .null, .null, .int (v 41), .int (v 42), .int (v 43), .null, .int (v 45), .null, .int (v 47), .null, .null]
  | 3 => [.int (v 0), .int (v 1), .ref (r + 1), .ref (r + 2), .ref (r + 3), .null, .null, .null, .null, .null, .null, .null, .null, .null, .null, .null, .null, .null, .null, .null, .int (v 20), .null, .null, .null, .null, .null, .int (v 26), .int (v 27), .null, .null, .null, .null, .null, .int (v 33), .int (v 34), .null, .null, .null, .null, .null, .null, .int (v 41), .int (v 42), .int (v 43), .null, .int (v 45), .null, .int (v 47), .null, .null]
  | 4 => [.int (v 0), .int (v 1), .ref (r + 1), .ref (r + 2), .ref (r + 3), .ref (r + 4), .null, .null, .null, .null, .null, .null, .null, .null, .null, .null, .null, .null, .null, .null, .int (v 20), .null, .null, .null, .null, .null, .int (v 26), .int (v 27), .null, .null, .null, .null, .null, .int (v 33), .int (v 34), .null, .null, .null, .null, .null, .null, .int (v 41), .int (v 42), .int (v 43), .null, .int (v 45), .null, .int (v 47), .null, .null]
  | 5 => [.int (v 0), .int (v 1), .ref (r + 1), .ref (r + 2), .ref (r + 3), .ref (r + 4), .ref (r + 5), .null, .null, .null, .null, .null, .null, .null, .null, .null, .null, .null, .null, .null, .int (v 20), .null, .null, .null, .null, .null, .int (v 26), .int (v 27), .null, .null, .null, .null, .null, .int (v 33), .int (v 34), .null, .null, .null, .null, .null, .null, .int (v 41), .int (v 42), .int (v 43), .null, .int (v 45), .null, .int (v 47), .null, .null]
  | 6 => [.int (v 0), .int (v 1), .ref (r + 1), .ref (r + 2), .ref (r + 3), .ref (r + 4), .ref (r + 5), .ref (r + 6), .null, .null, .null, .null, .null, .null, .null, .null, .null, .null, .null, .null, .int (v 20), .null, .null, .null, .null, .null, .int (v 26), .int (v 27), .null, .null, .null, .null, .null, .int (v 33), .int (v 34), .null, .null, .null, .null, .null, .null, .int (v 41), .int (v 42), .int (v 43), .null, .int (v 45), .null, .int (v 47), .null, .null]
  | 7 => [.int (v 0), .int (v 1), .ref (r + 1), .ref (r + 2), .ref (r + 3), .ref (r + 4), .ref (r + 5), .ref (r + 6), .ref (r + 7), .null, .null, .null, .null, .null, .null, .null, .null, .null, .null, .null, .int (v 20), .null, .null, .null, .null, .null, .int (v 26), .int (v 27), .null, .null, .null, .null, .null, .int (v 33), .int (v 34), .null, .null, .null, .null, .null, .null, .int (v 41), .int (v 42), .int (v 43), .null, .int (v 45), .null, .int (v 47), .null, .null]
  | 8 => [.int (v 0), .int (v 1), .ref (r + 1), .ref (r + 2), .ref (r + 3), .ref (r + 4), .ref (r + 5), .ref (r + 6), .ref (r + 7), .ref (r + 8), .null, .null, .null, .null, .null, .null, .null, .null, .null, .null, .int (v 20), .null, .null, .null, .null, .null, .int (v 26), .int (v 27), .null, .null, .null, .null, .null, .int (v 33), .int (v 34), .null, .null, .null, .null, .null, .null, .int (v 41), .int (v 42), .int (v 43), .null, .int (v 45), .null, .int (v 47), .null, .null]
  | 9 => [.int (v 0), .int (v 1), .ref (r + 1), .ref (r + 2), .ref (r + 3), .ref (r + 4), .ref (r + 5), .ref (r + 6), .ref (r + 7), .ref (r + 8), .ref (r + 9), .null, .null, .null, .null, .null, .null, .null, .null, .null, .int (v 20), .null, .null, .null, .null, .null, .int (v 26), .int (v 27), .null, .null, .null, .null, .null, .int (v 33), .int (v 34), .null, .null, .null, .null, .null, .null, .int (v 41), .int (v 42), .int (v 43), .null, .int (v 45), .null, .int (v 47), .null, .null]
  | 10 => [.int (v 0), .int (v 1), .ref (r + 1), .ref (r + 2), .ref (r + 3), .ref (r + 4), .ref (r + 5), .ref (r + 6), .ref (r + 7), .ref (r + 8), .ref (r + 9), .ref (r + 10), .null, .null, .null, .null, .null, .null, .null, .null, .int (v 20), .null, .null, .null, .null, .null, .int (v 26), .int (v 27), .null, .null, .null, .null, .null, .int (v 33), .int (v 34), .null, .null, .null, .null, .null, .null, .int (v 41), .int (v 42), .int (v 43), .null, .int (v 45), .null, .int (v 47), .null, .null]
  | 11 => [.int (v 0), .int (v 1), .ref (r + 1), .ref (r + 2), .ref (r + 3), .ref (r + 4), .ref (r + 5), .ref (r + 6), .ref (r + 7), .ref (r + 8), .ref (r + 9), .ref (r + 10), .ref (r + 11), .null, .null, .null, .null, .null, .null, .null, .int (v 20), .null, .null, .null, .null, .null, .int (v 26), .int (v 27), .null, .null, .null, .null, .null, .int (v 33), .int (v 34), .null, .null, .null, .null, .null, .null, .int (v 41), .int (v 42), .int (v 43), .null, .int (v 45), .null, .int (v 47), .null, .null]
  | 12 => [.int (v 0), .int (v 1), .ref (r + 1), .ref (r + 2), .ref (r + 3), .ref (r + 4), .ref (r + 5), .ref (r + 6), .ref (r + 7), .ref (r + 8), .ref (r + 9), .ref (r + 10), .ref (r + 11), .ref (r + 12), .null, .null, .null, .null, .null, .null, .int (v 20), .null, .null, .null, .null, .null, .int (v 26), .int (v 27), .null, .null, .null, .null, .null, .int (v 33), .int (v 34), .null, .null, .null, .null, .null, .null, .int (v 41), .int (v 42), .int (v 43), .null, .int (v 45), .null, .int (v 47), .null, .null]
  | 13 => [.int (v 0), .int (v 1), .ref (r + 1), .ref (r + 2), .ref (r + 3), .ref (r + 4), .ref (r + 5), .ref (r + 6), .ref (r + 7), .ref (r + 8), .ref (r + 9), .ref (r + 10), .ref (r + 11), .ref (r + 12), .ref (r + 13), .null, .null, .null, .null, .null, .int (v 20), .null, .null, .null, .null, .null, .int (v 26), .int (v 27), .null, .null, .null, .null, .null, .int (v 33), .int (v 34), .null, .null, .null, .null, .null, .null, .int (v 41), .int (v 42), .int (v 43), .null, .int (v 45), .null, .int (v 47), .null, .null]
  | 14 => [.int (v 0), .int (v 1), .ref (r + 1), .ref (r + 2), .ref (r + 3), .ref (r + 4), .ref (r + 5), .ref (r + 6), .ref (r + 7), .ref (r + 8), .ref (r + 9), .ref (r + 10), .ref (r + 11), .ref (r + 12), .ref (r + 13), .ref (r + 14), .null, .null, .null, .null, .int (v 20), .null, .null, .null, .null, .null, .int (v 26), .int (v 27), .null, .null, .null, .null, .null, .int (v 33), .int (v 34), .null, .null, .null, .null, .null, .null, .int (v 41), .int (v 42), .int (v 43), .null, .int (v 45), .null, .int (v 47), .null, .null]
  | 15 => [.int (v 0), .int (v 1), .ref (r + 1), .ref (r + 2), .ref (r + 3), .ref (r + 4), .ref (r + 5), .ref (r + 6), .ref (r + 7), .ref (r + 8), .ref (r + 9), .ref (r + 10), .ref (r + 11), .ref (r + 12), .ref (r + 13), .ref (r + 14), .ref (r + 15), .null, .null, .null, .int (v 20), .null, .null, .null, .null, .null, .int (v 26), .int (v 27), .null, .null, .null, .null, .null, .int (v 33), .int (v 34), .null, .null, .null, .null, .null, .null, .int (v 41), .int (v 42), .int (v 43), .null, .int (v 45), .null, .int (v 47), .null, .null]
  | 16 => [.int (v 0), .int (v 1), .ref (r + 1), .ref (r + 2), .ref (r + 3), .ref (r + 4), .ref (r + 5), .ref (r + 6), .ref (r + 7), .ref (r + 8), .ref (r + 9), .ref (r + 10), .ref (r + 11), .ref (r + 12), .ref (r + 13), .ref (r + 14), .ref (r + 15), .ref (r + 16), .null, .null, .int (v 20), .null, .null, .null, .null, .null, .int (v 26), .int (v 27), .null, .null, .null, .null, .null, .int (v 33), .int (v 34), .null, .null, .null, .null, .null, .null, .int (v 41), .int (v 42), .int (v 43), .null, .int (v 45), .null, .int (v 47), .null, .null]
  | 17 => [.int (v 0), .int (v 1), .ref (r + 1), .ref (r + 2), .ref (r + 3), .ref (r + 4), .ref (r + 5), .ref (r + 6), .ref (r + 7), .ref (r + 8), .ref (r + 9), .ref (r + 10), .ref (r + 11), .ref (r + 12), .ref (r + 13), .ref (r + 14), .ref (r + 15), .ref (r + 16), .ref (r + 17), .null, .int (v 20), .null, .null, .null, .null, .null, .int (v 26), .int (v 27), .null, .null, .null, .null, .null, .int (v 33), .int (v 34), .null, .null, .null, .null, .null, .null, .int (v 41), .int (v 42), .int (v 43), .null, .int (v 45), .null, .int (v 47), .null, .null]
  | 18 => [.int (v 0), .int (v 1), .ref (r + 1), .ref (r + 2), .ref (r + 3), .ref (r + 4), .ref (r + 5), .ref (r + 6), .ref (r + 7), .ref (r + 8), .ref (r + 9), .ref (r + 10), .ref (r + 11), .ref (r + 12), .ref (r + 13), .ref (r + 14), .ref (r + 15), .ref (r + 16), .ref (r + 17), .ref (r + 18), .int (v 20), .null, .null, .null, .null, .null, .int (v 26), .int (v 27), .null, .null, .null, .null, .null, .int (v 33), .int (v 34), .null, .null, .null, .null, .null, .null, .int (v 41), .int (v 42), .int (v 43), .null, .int (v 45), .null, .int (v 47), .null, .null]
  | 19 => [.int (v 0), .int (v 1), .ref (r + 1), .ref (r + 2), .ref (r + 3), .ref (r + 4), .ref (r + 5), .ref (r + 6), .ref (r + 7), .ref (r + 8), .ref (r + 9), .ref (r + 10), .ref (r + 11), .ref (r + 12), .ref (r + 13), .ref (r + 14), .ref (r + 15), .ref (r + 16), .ref (r + 17), .ref (r + 18), .int (v 20), .ref (r + 19), .null, .null, .null, .null, .int (v 26), .int (v 27), .null, .null, .null, .null, .null, .int (v 33), .int (v 34), .null, .null, .null, .null, .null, .null, .int (v 41), .int (v 42), .int (v 43), .null, .int (v 45), .null, .int (v 47), .null, .null]
  | 20 => [.int (v 0), .int (v 1), .ref (r + 1), .ref (r + 2), .ref (r + 3), .ref (r + 4), .ref (r + 5), .ref (r + 6), .ref (r + 7), .ref (r + 8), .ref (r + 9), .ref (r + 10), .ref (r + 11), .ref (r + 12), .ref (r + 13), .ref (r + 14), .ref (r + 15), .ref (r + 16), .ref (r + 17), .ref (r + 18), .int (v 20), .ref (r + 19), .ref (r + 20), .null, .null, .null, .int (v 26), .int (v 27), .null, .null, .null, .null, .null, .int (v 33), .int (v 34), .null, .null, .null, .null, .null, .null, .int (v 41), .int (v 42), .int (v 43), .null, .int (v 45), .null, .int (v 47), .null, .null]
  | 21 => [.int (v 0), .int (v 1), .ref (r + 1), .ref (r + 2), .ref (r + 3), .ref (r + 4), .ref (r + 5), .ref (r + 6), .ref (r + 7), .ref (r + 8), .ref (r + 9), .ref (r + 10), .ref (r + 11), .ref (r + 12), .ref (r + 13), .ref (r + 14), .ref (r + 15), .ref (r + 16), .ref (r + 17), .ref (r + 18), .int (v 20), .ref (r + 19), .ref (r + 20), .ref (r + 21), .null, .null, .int (v 26), .int (v 27), .null, .null, .null, .null, .null, .int (v 33), .int (v 34), .null, .null, .null, .null, .null, .null, .int (v 41), .int (v 42), .int (v 43), .null, .int (v 45), .null, .int (v 47), .null, .null]
  | 22 => [.int (v 0), .int (v 1), .ref (r + 1), .ref (r + 2), .ref (r + 3), .ref (r + 4), .ref (r + 5), .ref (r + 6), .ref (r + 7), .ref (r + 8), .ref (r + 9), .ref (r + 10), .ref (r + 11), .ref (r + 12), .ref (r + 13), .ref (r + 14), .ref (r + 15), .ref (r + 16), .ref (r + 17), .ref (r + 18), .int (v 20), .ref (r + 19), .ref (r + 20), .ref (r + 21), .ref (r + 22), .null, .int (v 26), .int (v 27), .null, .null, .null, .null, .null, .int (v 33), .int (v 34), .null, .null, .null, .null, .null, .null, .int (v 41), .int (v 42), .int (v 43), .null, .int (v 45), .null, .int (v 47), .null, .null]
  | 23 => [.int (v 0), .int (v 1), .ref (r + 1), .ref (r + 2), .ref (r + 3), .ref (r + 4), .ref (r + 5), .ref (r + 6), .ref (r + 7), .ref (r + 8), .ref (r + 9), .ref (r + 10), .ref (r + 11), .ref (r + 12), .ref (r + 13), .ref (r + 14), .ref (r + 15), .ref (r + 16), .ref (r + 17), .ref (r + 18), .int (v 20), .ref (r + 19), .ref (r + 20), .ref (r + 21), .ref (r + 22), .ref (r + 23), .int (v 26), .int (v 27), .null, .null, .null, .null, .null, .int (v 33), .int (v 34), .null, .null, .null, .null, .null, .null, .int (v 41), .int (v 42), .int (v 43), .null, .int (v 45), .null, .int (v 47), .null, .null]
  | 24 => [.int (v 0), .int (v 1), .ref (r + 1), .ref (r + 2), .ref (r + 3), .ref (r + 4), .ref (r + 5), .ref (r + 6), .ref (r + 7), .ref (r + 8), .ref (r + 9), .ref (r + 10), .ref (r + 11), .ref (r + 12), .ref (r + 13), .ref (r + 14), .ref (r + 15), .ref (r + 16), .ref (r + 17), .ref (r + 18), .int (v 20), .ref (r + 19), .ref (r + 20), .ref (r + 21), .ref (r + 22), .ref (r + 23), .int (v 26), .int (v 27), .ref (r + 24), .null, .null, .null, .null, .int (v 33), .int (v 34), .null, .null, .null, .null, .null, .null, .int (v 41), .int (v 42), .int (v 43), .null, .int (v 45), .null, .int (v 47), .null, .null]
  | 25 => [.int (v 0), .int (v 1), .ref (r + 1), .ref (r + 2), .ref (r + 3), .ref (r + 4), .ref (r + 5), .ref (r + 6), .ref (r + 7), .ref (r + 8), .ref (r + 9), .ref (r + 10), .ref (r + 11), .ref (r + 12), .ref (r + 13), .ref (r + 14), .ref (r + 15), .ref (r + 16), .ref (r + 17), .ref (r + 18), .int (v 20), .ref (r + 19), .ref (r + 20), .ref (r + 21), .ref (r + 22), .ref (r + 23), .int (v 26), .int (v 27), .ref (r + 24), .ref (r + 25), .null, .null, .null, .int (v 33), .int (v 34), .null, .null, .null, .null, .null, .null, .int (v 41), .int (v 42), .int (v 43), .null, .int (v 45), .null, .int (v 47), .null, .null]
  | 26 => [.int (v 0), .int (v 1), .ref (r + 1), .ref (r + 2), .ref (r + 3), .ref (r + 4), .ref (r + 5), .ref (r + 6), .ref (r + 7), .ref (r + 8), .ref (r + 9), .ref (r + 10), .ref (r + 11), .ref (r + 12), .ref (r + 13), .ref (r + 14), .ref (r + 15), .ref (r + 16), .ref (r + 17), .ref (r + 18), .int (v 20), .ref (r + 19), .ref (r + 20), .ref (r + 21), .ref (r + 22), .ref (r + 23), .int (v 26), .int (v 27), .ref (r + 24), .ref (r + 25), .ref (r + 26), .null, .null, .int (v 33), .int (v 34), .null, .null, .null, .null, .null, .null, .int (v 41), .int (v 42), .int (v 43), .null, .int (v 45), .null, .int (v 47), .null, .null]
  | 27 => [.int (v 0), .int (v 1), .ref (r + 1), .ref (r + 2), .ref (r + 3), .ref (r + 4), .ref (r + 5), .ref (r + 6), .ref (r + 7), .ref (r + 8), .ref (r + 9), .ref (r + 10), .ref (r + 11), .ref (r + 12), .ref (r + 13), .ref (r + 14), .ref (r + 15), .ref (r + 16), .ref (r + 17), .ref (r + 18), .int (v 20), .ref (r + 19), .ref (r + 20), .ref (r + 21), .ref (r + 22), .ref (r + 23), .int (v 26), .int (v 27), .ref (r + 24), .ref (r + 25), .ref (r + 26), .ref (r + 27), .null, .int (v 33), .int (v 34), .null, .null, .null, .null, .null, .null, .int (v 41), .int (v 42), .int (v 43), .null, .int (v 45), .null, .int (v 47), .null, .null]
  | 28 => [.int (v 0), .int (v 1), .ref (r + 1), .ref (r + 2), .ref (r + 3), .ref (r + 4), .ref (r + 5), .ref (r + 6), .ref (r + 7), .ref (r + 8), .ref (r + 9), .ref (r + 10), .ref (r + 11), .ref (r + 12), .ref (r + 13), .ref (r + 14), .ref (r + 15), .ref (r + 16), .ref (r + 17), .ref (r + 18), .int (v 20), .ref (r + 19), .ref (r + 20), .ref (r + 21), .ref (r + 22), .ref (r + 23), .int (v 26), .int (v 27), .ref (r + 24), .ref (r + 25), .ref (r + 26), .ref (r + 27), .ref (r + 28), .int (v 33), .int (v 34), .null, .null, .null, .null, .null, .null, .int (v 41), .int (v 42), .int (v 43), .null, .int (v 45), .null, .int (v 47), .null, .null]
  | 29 => [.int (v 0), .int (v 1), .ref (r + 1), .ref (r + 2), .ref (r + 3), .ref (r + 4), .ref (r + 5), .ref (r + 6), .ref (r + 7), .ref (r + 8), .ref (r + 9), .ref (r + 10), .ref (r + 11), .ref (r + 12), .ref (r + 13), .ref (r + 14), .ref (r + 15), .ref (r + 16), .ref (r + 17), .ref (r + 18), .int (v 20), .ref (r + 19), .ref (r + 20), .ref (r + 21), .ref (r + 22), .ref (r + 23), .int (v 26), .int (v 27), .ref (r + 24), .ref (r + 25), .ref (r + 26), .ref (r + 27), .ref (r + 28), .int (v 33), .int (v 34), .ref (r + 29), .null, .null, .null, .null, .null, .int (v 41), .int (v 42), .int (v 43), .null, .int (v 45), .null, .int (v 47), .null, .null]
  | 30 => [.int (v 0), .int (v 1), .ref (r + 1), .ref (r + 2), .ref (r + 3), .ref (r + 4), .ref (r + 5), .ref (r + 6), .ref (r + 7), .ref (r + 8), .ref (r + 9), .ref (r + 10), .ref (r + 11), .ref (r + 12), .ref (r + 13), .ref (r + 14), .ref (r + 15), .ref (r + 16), .ref (r + 17), .ref (r + 18), .int (v 20), .ref (r + 19), .ref (r + 20), .ref (r + 21), .ref (r + 22), .ref (r + 23), .int (v 26), .int (v 27), .ref (r + 24), .ref (r + 25), .ref (r + 26), .ref (r + 27), .ref (r + 28), .int (v 33), .int (v 34), .ref (r + 29), .ref (r + 30), .null, .null, .null, .null, .int (v 41), .int (v 42), .int (v 43), .null, .int (v 45), .null, .int (v 47), .null, .null]
  | 31 => [.int (v 0), .int (v 1), .ref (r + 1), .ref (r + 2), .ref (r + 3), .ref (r + 4), .ref (r + 5), .ref (r + 6), .ref (r + 7), .ref (r + 8), .ref (r + 9), .ref (r + 10), .ref (r + 11), .ref (r + 12), .ref (r + 13), .ref (r + 14), .ref (r + 15), .ref (r + 16), .ref (r + 17), .ref (r + 18), .int (v 20), .ref (r + 19), .ref (r + 20), .ref (r + 21), .ref (r + 22), .ref (r + 23), .int (v 26), .int (v 27), .ref (r + 24), .ref (r + 25), .ref (r + 26), .ref (r + 27), .ref (r + 28), .int (v 33), .int (v 34), .ref (r + 29), .ref (r + 30), .ref (r + 31), .null, .null, .null, .int (v 41), .int (v 42), .int (v 43), .null, .int (v 45), .null, .int (v 47), .null, .null]
  | 32 => [.int (v 0), .int (v 1), .ref (r + 1), .ref (r + 2), .ref (r + 3), .ref (r + 4), .ref (r + 5), .ref (r + 6), .ref (r + 7), .ref (r + 8), .ref (r + 9), .ref (r + 10), .ref (r + 11), .ref (r + 12), .ref (r + 13), .ref (r + 14), .ref (r + 15), .ref (r + 16), .ref (r + 17), .ref (r + 18), .int (v 20), .ref (r + 19), .ref (r + 20), .ref (r + 21), .ref (r + 22), .ref (r + 23), .int (v 26), .int (v 27), .ref (r + 24), .ref (r + 25), .ref (r + 26), .ref (r + 27), .ref (r + 28), .int (v 33), .int (v 34), .ref (r + 29), .ref (r + 30), .ref (r + 31), .ref (r + 32), .null, .null, .int (v 41), .int (v 42), .int (v 43), .null, .int (v 45), .null, .int (v 47), .null, .null]
  | 33 => [.int (v 0), .int (v 1), .ref (r + 1), .ref (r + 2), .ref (r + 3), .ref (r + 4), .ref (r + 5), .ref (r + 6), .ref (r + 7), .ref (r + 8), .ref (r + 9), .ref (r + 10), .ref (r + 11), .ref (r + 12), .ref (r + 13), .ref (r + 14), .ref (r + 15), .ref (r + 16), .ref (r + 17), .ref (r + 18), .int (v 20), .ref (r + 19), .ref (r + 20), .ref (r + 21), .ref (r + 22), .ref (r + 23), .int (v 26), .int (v 27), .ref (r + 24), .ref (r + 25), .ref (r + 26), .ref (r + 27), .ref (r + 28), .int (v 33), .int (v 34), .ref (r + 29), .ref (r + 30), .ref (r + 31), .ref (r + 32), .ref (r + 33), .null, .int (v 41), .int (v 42), .int (v 43), .null, .int (v 45), .null, .int (v 47), .null, .null]
  | 34 => [.int (v 0), .int (v 1), .ref (r + 1), .ref (r + 2), .ref (r + 3), .ref (r + 4), .ref (r + 5), .ref (r + 6), .ref (r + 7), .ref (r + 8), .ref (r + 9), .ref (r + 10), .ref (r + 11), .ref (r + 12), .ref (r + 13), .ref (r + 14), .ref (r + 15), .ref (r + 16), .ref (r + 17), .ref (r + 18), .int (v 20), .ref (r + 19), .ref (r + 20), .ref (r + 21), .ref (r + 22), .ref (r + 23), .int (v 26), .int (v 27), .ref (r + 24), .ref (r + 25), .ref (r + 26), .ref (r + 27), .ref (r + 28), .int (v 33), .int (v 34), .ref (r + 29), .ref (r + 30), .ref (r + 31), .ref (r + 32), .ref (r + 33), .ref (r + 34), .int (v 41), .int (v 42), .int (v 43), .null, .int (v 45), .null, .int (v 47), .null, .null]
  | 35 => [.int (v 0), .int (v 1), .ref (r + 1), .ref (r + 2), .ref (r + 3), .ref (r + 4), .ref (r + 5), .ref (r + 6), .ref (r + 7), .ref (r + 8), .ref (r + 9), .ref (r + 10), .ref (r + 11), .ref (r + 12), .ref (r + 13), .ref (r + 14), .ref (r + 15), .ref (r + 16), .ref (r + 17), .ref (r + 18), .int (v 20), .ref (r + 19), .ref (r + 20), .ref (r + 21), .ref (r + 22), .ref (r + 23), .int (v 26), .int (v 27), .ref (r + 24), .ref (r + 25), .ref (r + 26), .ref (r + 27), .ref (r + 28), .int (v 33), .int (v 34), .ref (r + 29), .ref (r + 30), .ref (r + 31), .ref (r + 32), .ref (r + 33), .ref (r + 34), .int (v 41), .int (v 42), .int (v 43), .ref (r + 35), .int (v 45), .null, .int (v 47), .null, .null]
  | 36 => [.int (v 0), .int (v 1), .ref (r + 1), .ref (r + 2), .ref (r + 3), .ref (r + 4), .ref (r + 5), .ref (r + 6), .ref (r + 7), .ref (r + 8), .ref (r + 9), .ref (r + 10), .ref (r + 11), .ref (r + 12), .ref (r + 13), .ref (r + 14), .ref (r + 15), .ref (r + 16), .ref (r + 17), .ref (r + 18), .int (v 20), .ref (r + 19), .ref (r + 20), .ref (r + 21), .ref (r + 22), .ref (r + 23), .int (v 26), .int (v 27), .ref (r + 24), .ref (r + 25), .ref (r + 26), .ref (r + 27), .ref (r + 28), .int (v 33), .int (v 34), .ref (r + 29), .ref (r + 30), .ref (r + 31), .ref (r + 32), .ref (r + 33), .ref (r + 34), .int (v 41), .int (v 42), .int (v 43), .ref (r + 35), .int (v 45), .ref (r + 36), .int (v 47), .null, .null]
  | 37 => [.int (v 0), .int (v 1), .ref (r + 1), .ref (r + 2), .ref (r + 3), .ref (r + 4), .ref (r + 5), .ref (r + 6), .ref (r + 7), .ref (r + 8), .ref (r + 9), .ref (r + 10), .ref (r + 11), .ref (r + 12), .ref (r + 13), .ref (r + 14), .ref (r + 15), .ref (r + 16), .ref (r + 17), .ref (r + 18), .int (v 20), .ref (r + 19), .ref (r + 20), .ref (r + 21), .ref (r + 22), .ref (r + 23), .int (v 26), .int (v 27), .ref (r + 24), .ref (r + 25), .ref (r + 26), .ref (r + 27), .ref (r + 28), .int (v 33), .int (v 34), .ref (r + 29), .ref (r + 30), .ref (r + 31), .ref (r + 32), .ref (r + 33), .ref (r + 34), .int (v 41), .int (v 42), .int (v 43), .ref (r + 35), .int (v 45), .ref (r + 36), .int (v 47), .ref (r + 37), .null]
  | _ => [.int (v 0), .int (v 1), .ref (r + 1), .ref (r + 2), .ref (r + 3), .ref (r + 4), .ref (r + 5), .ref (r + 6), .ref (r + 7), .ref (r + 8), .ref (r + 9), .ref (r + 10), .ref (r + 11), .ref (r + 12), .ref (r + 13), .ref (r + 14), .ref (r + 15), .ref (r + 16), .ref (r + 17), .ref (r + 18), .int (v 20), .ref (r + 19), .ref (r + 20), .ref (r + 21), .ref (r + 22), .ref (r + 23), .int (v 26), .int (v 27), .ref (r + 24), .ref (r + 25), .ref (r + 26), .ref (r + 27), .ref (r + 28), .int (v 33), .int (v 34), .ref (r + 29), .ref (r + 30), .ref (r + 31), .ref (r + 32), .ref (r + 33), .ref (r + 34), .int (v 41), .int (v 42), .int (v 43), .ref (r + 35), .int (v 45), .ref (r + 36), .int (v 47), .ref (r + 37), .ref (r + 38)]
def mq (aC : Nat → ClassId) (r : Nat) (v : Nat → Int32) (A : Nat → Nat → Int32) (R : ZM) (n : Nat) : ZM := fun q => if q = r then some (.inr (9, mqo r v n)) else if r < q ∧ q < r + (n + 1) then some (mc aC r v A (q - r)) else R q
theorem mq_r (aC : Nat → ClassId) (r : Nat) (v : Nat → Int32) (A : Nat → Nat → Int32) (R : ZM) (n : Nat) : mq aC r v A R n r = some (.inr (9, mqo r v n)) := by simp [mq]
theorem mq_step {aC : Nat → ClassId} {r : Nat} {v : Nat → Int32} {A : Nat → Nat → Int32} {R : ZM} {n : Nat} {e : va_E} {fs : List Value} (he : mc aC r v A (n + 1) = e) (hf : fs = mqo r v (n + 1)) : zup (zup (mq aC r v A R n) (r + (n + 1)) e) r (.inr (9, fs)) = mq aC r v A R (n + 1) := by
  subst hf; subst he
  funext q
  by_cases h1 : q = r
  · subst h1; rw [zup_self, mq_r]
  · rw [zup_ne _ _ h1]
    by_cases h2 : q = r + (n + 1)
    · subst h2
      rw [zup_self]
      simp only [mq]
      rw [if_neg h1, if_pos ⟨by omega, by omega⟩, Nat.add_sub_cancel_left]
    · rw [zup_ne _ _ h2]
      simp only [mq]
      rw [if_neg h1, if_neg h1]
      by_cases h3 : r < q ∧ q < r + (n + 1)
      · rw [if_pos h3, if_pos ⟨h3.1, by omega⟩]
      · rw [if_neg h3, if_neg (by omega)]
theorem mq_full {aC : Nat → ClassId} {r : Nat} {v : Nat → Int32} {A : Nat → Nat → Int32} {R : ZM} : mq aC r v A R 38 = mm aC r v A R := by
  funext q
  by_cases h1 : q = r
  · subst h1; rw [mq_r, rm_0]; rfl
  · simp only [mq, mm]
    rw [if_neg h1]
    by_cases h3 : r < q ∧ q < r + (38 + 1)
    · rw [if_pos h3, if_pos ⟨by omega, by omega⟩]
    · rw [if_neg h3, if_neg (by omega)]
theorem mq_v {aC : Nat → ClassId} {r : Nat} {v v' : Nat → Int32} {A : Nat → Nat → Int32} {R : ZM} {n : Nat} {fs : List Value} (hf : fs = mqo r v' n) : zup (mq aC r v A R n) r (.inr (9, fs)) = mq aC r v' A R n := by
  subst hf
  funext q
  by_cases h1 : q = r
  · subst h1; rw [zup_self, mq_r]
  · rw [zup_ne _ _ h1]
    simp only [mq]
    rw [if_neg h1, if_neg h1]
    by_cases h3 : r < q ∧ q < r + (n + 1)
    · rw [if_pos h3, if_pos h3]
      have h4 : q - r ≠ 0 := by omega
      simp [mc, h4]
    · rw [if_neg h3, if_neg h3]
def stX9_init_326 (i1_ : (Nat → Int32)) : Nat → (Nat → Int32)
  | 0 => (i1_)
  | j + 1 => ((upd ((stX9_init_326 i1_ j)) (Int32.toNatClampNeg (nI j)) ((-1))))
set_option maxHeartbeats 2000000 in
set_option maxRecDepth 10000 in
theorem lpX9_init_326 {p : Program} {l : Launch} {e : Env} {Rm : Room} {s : State} {m : MethodId} {args : Array Value} {below : List Frame} {meth : Method} {c : Code} {D : va_G} {aC : Nat → ClassId} {b0 cells slots : Nat} {Q : State → Prop} {r : Nat} {v : Nat → Int32} {A : Nat → Nat → Int32} {R : ZM} {i1_ : (Nat → Int32)} {N_ sz : Nat} (C : zC p l s m c D aC b0 RX9 cX9_init 2) (hNb : (12 : Int32) = nI N_) (hN2 : N_ ≤ 12) (hNl : N_ < 2 ^ 31) :
    ∀ (d j : Nat), j + d = N_ → ∀ (ls : Array Slot), lv_has ls 2 [(0, .ref (r)), (1, .int (nI j))] → (∀ (ls : Array Slot), lv_has ls 2 [(0, .ref (r)), (1, .int (nI N_))] → Z p l e Rm s m args below meth c D b0 (mm aC r v (u1 A 34 (stX9_init_326 i1_ N_)) R) sz cells slots Q (F0 m 345 ls [])) → Z p l e Rm s m args below meth c D b0 (mm aC r v (u1 A 34 (stX9_init_326 i1_ j)) R) sz cells slots Q (F0 m 326 ls []) := by
  obtain ⟨hx, hb, -, -, -⟩ := id C
  intro d
  induction d with
  | zero =>
    intro j hj0 ls hl K
    refine zz (fun _ _ => lv_iload_n hx hb dX9_init_326 rfl (lv_at hl 1 rfl)) ?_
    refine zz (fun _ _ => lv_bipush (v := 12) hx hb dX9_init_327 (by decide)) ?_
    refine zb (fun _ _ => lv_icmp_ge (tgt := 345) hx hb dX9_init_329 (by decide)) (fun c_1 => ?_) (fun c_1 => ?_)
    · obtain rfl := fl_eq (j := j) (N := N_) hNb (by omega) hNl c_1
      exact K _ (lv_sub hl [0, 1] rfl)
    · exact absurd (fl_lt (j := j) (N := N_) hNb (by omega) hNl c_1) (by omega)
  | succ d ih =>
    intro j hj0 ls hl K
    refine zz (fun _ _ => lv_iload_n hx hb dX9_init_326 rfl (lv_at hl 1 rfl)) ?_
    refine zz (fun _ _ => lv_bipush (v := 12) hx hb dX9_init_327 (by decide)) ?_
    refine zb (fun _ _ => lv_icmp_ge (tgt := 345) hx hb dX9_init_329 (by decide)) (fun c_1 => ?_) (fun c_1 => ?_)
    · obtain rfl := fl_eq (j := j) (N := N_) hNb (by omega) hNl c_1
      exact K _ (lv_sub hl [0, 1] rfl)
    · have hj9 : j < N_ := fl_lt hNb (by omega) hNl c_1
      refine zz (fun _ _ => lv_aload_n hx hb dX9_init_332 rfl (lv_at hl 0 rfl)) ?_
      refine z_get (v := .ref (r + 34)) C fd_X9_110 rm_0 rfl dX9_init_333 ?_
      refine zz (fun _ _ => lv_iload_n hx hb dX9_init_336 rfl (lv_at hl 1 rfl)) ?_
      refine zz (fun _ _ => lv_iconst (v := (-1)) hx hb dX9_init_337 (by decide)) ?_
      refine z_iast (f := (stX9_init_326 i1_ j)) C rm_34 (in_nI (j := j) rfl (by omega) (by decide)) dX9_init_338 ?_
      refine zeq wm_34 ?_
      refine zeq (M' := (mm aC r v (u1 A 34 (upd ((stX9_init_326 i1_ j)) (Int32.toNatClampNeg (nI j)) ((-1)))) R)) (by rw [u1_u1]) ?_
      refine zs (fun _ _ => lv_iinc (v := nI j + 1) (lv' := [(1, .int (nI j + 1)), (0, .ref (r))]) hx hb dX9_init_339 hl (k := 1) rfl rfl (by decide) rfl) (fun ls hl => ?_)
      refine zz (fun _ _ => lv_goto (tgt := 326) hx hb dX9_init_342 (by decide)) ?_
      have hI := ih (j + 1) (by omega)
      simp only [stX9_init_326, if_neg c_1] at hI
      have hl := lv_sub hl [1, 0] rfl
      simp only [nI_1] at hl
      exact hI _ hl K
def vM0 : Nat → Int32 := (upd (fun _ => 0) 42 (-1))
def AM0 : Nat → Nat → Int32 := (u1 (u1 (fun _ _ => 0) 23 (upd ((fun _ _ => 0) 23) (Int32.toNatClampNeg (0)) (1))) 34 (stX9_init_326 ((fun _ _ => 0) 34) 12))
set_option maxHeartbeats 4000000 in
set_option maxRecDepth 20000 in
theorem ctX9_init {l : Launch} {D : va_G} {aC : Nat → ClassId} {b0 r : Nat} {R : ZM} : Ct l D aC b0 yX9_init cX9_init 2 none 1 38 43742 [.ref r] (mq aC r (fun _ => 0) (fun _ _ => 0) R 0) (r + 1) (zdz none (mm aC r vM0 AM0 R) (r + 39)) := by
  refine Ct.of (by decide) (Nat.le_of_ble_eq_true rfl) ?_
  intro p e s m below meth c ls C hr hlk hnm hl
  have hl : lv_has ls 2 [(0, .ref r)] := hl
  obtain ⟨hx, hb, -, -, -⟩ := id C
  refine zz (fun _ _ => lv_aload_n hx hb dX9_init_0 rfl (lv_at hl 0 rfl)) ?_
  refine z_obj C hl.1 ob_X9_1 (by decide) (by decide) dX9_init_1 ?_
  refine zz (fun _ _ => lv_aload_n hx hb dX9_init_4 rfl (lv_at hl 0 rfl)) ?_
  refine zz (fun _ _ => lv_bipush (v := 12) hx hb dX9_init_5 (by decide)) ?_
  refine z_newi (N' := 12) C (by decide) (by decide) (by decide) (by decide) (by decide) dX9_init_7 ?_
  refine z_put C fp_X9_7 (fun _ => hnm) ((zup_ne _ _ (by omega)).trans (mq_r _ _ _ _ _ 0)) (Nat.le_of_ble_eq_true rfl) rfl rfl dX9_init_9 ?_
  refine zeq (M' := mq aC r (fun _ => 0) (fun _ _ => 0) R 1) (mq_step rfl rfl) ?_
  refine zsz (sz' := r + (1 + 1)) rfl (zcs (k := 1) (n := 12) rfl rfl ?_)
  refine zz (fun _ _ => lv_aload_n hx hb dX9_init_12 rfl (lv_at hl 0 rfl)) ?_
  refine zz (fun _ _ => lv_bipush (v := 12) hx hb dX9_init_13 (by decide)) ?_
  refine z_newi (N' := 12) C (by decide) (by decide) (by decide) (by decide) (by decide) dX9_init_15 ?_
  refine z_put C fp_X9_13 (fun _ => hnm) ((zup_ne _ _ (by omega)).trans (mq_r _ _ _ _ _ 1)) (Nat.le_of_ble_eq_true rfl) rfl rfl dX9_init_17 ?_
  refine zeq (M' := mq aC r (fun _ => 0) (fun _ _ => 0) R 2) (mq_step rfl rfl) ?_
  refine zsz (sz' := r + (2 + 1)) rfl (zcs (k := 2) (n := 24) rfl rfl ?_)
  refine zz (fun _ _ => lv_aload_n hx hb dX9_init_20 rfl (lv_at hl 0 rfl)) ?_
  refine zz (fun _ _ => lv_bipush (v := 12) hx hb dX9_init_21 (by decide)) ?_
  refine z_newi (N' := 12) C (by decide) (by decide) (by decide) (by decide) (by decide) dX9_init_23 ?_
  refine z_put C fp_X9_16 (fun _ => hnm) ((zup_ne _ _ (by omega)).trans (mq_r _ _ _ _ _ 2)) (Nat.le_of_ble_eq_true rfl) rfl rfl dX9_init_25 ?_
  refine zeq (M' := mq aC r (fun _ => 0) (fun _ _ => 0) R 3) (mq_step rfl rfl) ?_
  refine zsz (sz' := r + (3 + 1)) rfl (zcs (k := 3) (n := 36) rfl rfl ?_)
  refine zz (fun _ _ => lv_aload_n hx hb dX9_init_28 rfl (lv_at hl 0 rfl)) ?_
  refine zz (fun _ _ => lv_bipush (v := 12) hx hb dX9_init_29 (by decide)) ?_
  refine z_newz (N' := 12) C (by decide) (by decide) (by decide) (by decide) (by decide) dX9_init_31 ?_
  refine z_put C fp_X9_19 (fun _ => hnm) ((zup_ne _ _ (by omega)).trans (mq_r _ _ _ _ _ 3)) (Nat.le_of_ble_eq_true rfl) rfl rfl dX9_init_33 ?_
  refine zeq (M' := mq aC r (fun _ => 0) (fun _ _ => 0) R 4) (mq_step rfl rfl) ?_
  refine zsz (sz' := r + (4 + 1)) rfl (zcs (k := 4) (n := 48) rfl rfl ?_)
  refine zz (fun _ _ => lv_aload_n hx hb dX9_init_36 rfl (lv_at hl 0 rfl)) ?_
  refine zz (fun _ _ => lv_bipush (v := 12) hx hb dX9_init_37 (by decide)) ?_
  refine z_newi (N' := 12) C (by decide) (by decide) (by decide) (by decide) (by decide) dX9_init_39 ?_
  refine z_put C fp_X9_23 (fun _ => hnm) ((zup_ne _ _ (by omega)).trans (mq_r _ _ _ _ _ 4)) (Nat.le_of_ble_eq_true rfl) rfl rfl dX9_init_41 ?_
  refine zeq (M' := mq aC r (fun _ => 0) (fun _ _ => 0) R 5) (mq_step rfl rfl) ?_
  refine zsz (sz' := r + (5 + 1)) rfl (zcs (k := 5) (n := 60) rfl rfl ?_)
  refine zz (fun _ _ => lv_aload_n hx hb dX9_init_44 rfl (lv_at hl 0 rfl)) ?_
  refine zz (fun _ _ => lv_bipush (v := 72) hx hb dX9_init_45 (by decide)) ?_
  refine z_newi (N' := 72) C (by decide) (by decide) (by decide) (by decide) (by decide) dX9_init_47 ?_
  refine z_put C fp_X9_26 (fun _ => hnm) ((zup_ne _ _ (by omega)).trans (mq_r _ _ _ _ _ 5)) (Nat.le_of_ble_eq_true rfl) rfl rfl dX9_init_49 ?_
  refine zeq (M' := mq aC r (fun _ => 0) (fun _ _ => 0) R 6) (mq_step rfl rfl) ?_
  refine zsz (sz' := r + (6 + 1)) rfl (zcs (k := 6) (n := 132) rfl rfl ?_)
  refine zz (fun _ _ => lv_aload_n hx hb dX9_init_52 rfl (lv_at hl 0 rfl)) ?_
  refine zz (fun _ _ => lv_bipush (v := 72) hx hb dX9_init_53 (by decide)) ?_
  refine z_newi (N' := 72) C (by decide) (by decide) (by decide) (by decide) (by decide) dX9_init_55 ?_
  refine z_put C fp_X9_29 (fun _ => hnm) ((zup_ne _ _ (by omega)).trans (mq_r _ _ _ _ _ 6)) (Nat.le_of_ble_eq_true rfl) rfl rfl dX9_init_57 ?_
  refine zeq (M' := mq aC r (fun _ => 0) (fun _ _ => 0) R 7) (mq_step rfl rfl) ?_
  refine zsz (sz' := r + (7 + 1)) rfl (zcs (k := 7) (n := 204) rfl rfl ?_)
  refine zz (fun _ _ => lv_aload_n hx hb dX9_init_60 rfl (lv_at hl 0 rfl)) ?_
  refine zz (fun _ _ => lv_bipush (v := 72) hx hb dX9_init_61 (by decide)) ?_
  refine z_newi (N' := 72) C (by decide) (by decide) (by decide) (by decide) (by decide) dX9_init_63 ?_
  refine z_put C fp_X9_32 (fun _ => hnm) ((zup_ne _ _ (by omega)).trans (mq_r _ _ _ _ _ 7)) (Nat.le_of_ble_eq_true rfl) rfl rfl dX9_init_65 ?_
  refine zeq (M' := mq aC r (fun _ => 0) (fun _ _ => 0) R 8) (mq_step rfl rfl) ?_
  refine zsz (sz' := r + (8 + 1)) rfl (zcs (k := 8) (n := 276) rfl rfl ?_)
  refine zz (fun _ _ => lv_aload_n hx hb dX9_init_68 rfl (lv_at hl 0 rfl)) ?_
  refine zz (fun _ _ => lv_bipush (v := 72) hx hb dX9_init_69 (by decide)) ?_
  refine z_newz (N' := 72) C (by decide) (by decide) (by decide) (by decide) (by decide) dX9_init_71 ?_
  refine z_put C fp_X9_35 (fun _ => hnm) ((zup_ne _ _ (by omega)).trans (mq_r _ _ _ _ _ 8)) (Nat.le_of_ble_eq_true rfl) rfl rfl dX9_init_73 ?_
  refine zeq (M' := mq aC r (fun _ => 0) (fun _ _ => 0) R 9) (mq_step rfl rfl) ?_
  refine zsz (sz' := r + (9 + 1)) rfl (zcs (k := 9) (n := 348) rfl rfl ?_)
  refine zz (fun _ _ => lv_aload_n hx hb dX9_init_76 rfl (lv_at hl 0 rfl)) ?_
  refine zz (fun _ _ => lv_bipush (v := 12) hx hb dX9_init_77 (by decide)) ?_
  refine z_newi (N' := 12) C (by decide) (by decide) (by decide) (by decide) (by decide) dX9_init_79 ?_
  refine z_put C fp_X9_38 (fun _ => hnm) ((zup_ne _ _ (by omega)).trans (mq_r _ _ _ _ _ 9)) (Nat.le_of_ble_eq_true rfl) rfl rfl dX9_init_81 ?_
  refine zeq (M' := mq aC r (fun _ => 0) (fun _ _ => 0) R 10) (mq_step rfl rfl) ?_
  refine zsz (sz' := r + (10 + 1)) rfl (zcs (k := 10) (n := 360) rfl rfl ?_)
  refine zz (fun _ _ => lv_aload_n hx hb dX9_init_84 rfl (lv_at hl 0 rfl)) ?_
  refine zz (fun _ _ => lv_bipush (v := 48) hx hb dX9_init_85 (by decide)) ?_
  refine z_newi (N' := 48) C (by decide) (by decide) (by decide) (by decide) (by decide) dX9_init_87 ?_
  refine z_put C fp_X9_41 (fun _ => hnm) ((zup_ne _ _ (by omega)).trans (mq_r _ _ _ _ _ 10)) (Nat.le_of_ble_eq_true rfl) rfl rfl dX9_init_89 ?_
  refine zeq (M' := mq aC r (fun _ => 0) (fun _ _ => 0) R 11) (mq_step rfl rfl) ?_
  refine zsz (sz' := r + (11 + 1)) rfl (zcs (k := 11) (n := 408) rfl rfl ?_)
  refine zz (fun _ _ => lv_aload_n hx hb dX9_init_92 rfl (lv_at hl 0 rfl)) ?_
  refine zz (fun _ _ => lv_bipush (v := 48) hx hb dX9_init_93 (by decide)) ?_
  refine z_newi (N' := 48) C (by decide) (by decide) (by decide) (by decide) (by decide) dX9_init_95 ?_
  refine z_put C fp_X9_44 (fun _ => hnm) ((zup_ne _ _ (by omega)).trans (mq_r _ _ _ _ _ 11)) (Nat.le_of_ble_eq_true rfl) rfl rfl dX9_init_97 ?_
  refine zeq (M' := mq aC r (fun _ => 0) (fun _ _ => 0) R 12) (mq_step rfl rfl) ?_
  refine zsz (sz' := r + (12 + 1)) rfl (zcs (k := 12) (n := 456) rfl rfl ?_)
  refine zz (fun _ _ => lv_aload_n hx hb dX9_init_100 rfl (lv_at hl 0 rfl)) ?_
  refine zz (fun _ _ => lv_bipush (v := 48) hx hb dX9_init_101 (by decide)) ?_
  refine z_newi (N' := 48) C (by decide) (by decide) (by decide) (by decide) (by decide) dX9_init_103 ?_
  refine z_put C fp_X9_47 (fun _ => hnm) ((zup_ne _ _ (by omega)).trans (mq_r _ _ _ _ _ 12)) (Nat.le_of_ble_eq_true rfl) rfl rfl dX9_init_105 ?_
  refine zeq (M' := mq aC r (fun _ => 0) (fun _ _ => 0) R 13) (mq_step rfl rfl) ?_
  refine zsz (sz' := r + (13 + 1)) rfl (zcs (k := 13) (n := 504) rfl rfl ?_)
  refine zz (fun _ _ => lv_aload_n hx hb dX9_init_108 rfl (lv_at hl 0 rfl)) ?_
  refine zz (fun _ _ => lv_iconst (v := 4) hx hb dX9_init_109 (by decide)) ?_
  refine z_newi (N' := 4) C (by decide) (by decide) (by decide) (by decide) (by decide) dX9_init_110 ?_
  refine z_put C fp_X9_50 (fun _ => hnm) ((zup_ne _ _ (by omega)).trans (mq_r _ _ _ _ _ 13)) (Nat.le_of_ble_eq_true rfl) rfl rfl dX9_init_112 ?_
  refine zeq (M' := mq aC r (fun _ => 0) (fun _ _ => 0) R 14) (mq_step rfl rfl) ?_
  refine zsz (sz' := r + (14 + 1)) rfl (zcs (k := 14) (n := 508) rfl rfl ?_)
  refine zz (fun _ _ => lv_aload_n hx hb dX9_init_115 rfl (lv_at hl 0 rfl)) ?_
  refine zz (fun _ _ => lv_bipush (v := 40) hx hb dX9_init_116 (by decide)) ?_
  refine z_newi (N' := 40) C (by decide) (by decide) (by decide) (by decide) (by decide) dX9_init_118 ?_
  refine z_put C fp_X9_53 (fun _ => hnm) ((zup_ne _ _ (by omega)).trans (mq_r _ _ _ _ _ 14)) (Nat.le_of_ble_eq_true rfl) rfl rfl dX9_init_120 ?_
  refine zeq (M' := mq aC r (fun _ => 0) (fun _ _ => 0) R 15) (mq_step rfl rfl) ?_
  refine zsz (sz' := r + (15 + 1)) rfl (zcs (k := 15) (n := 548) rfl rfl ?_)
  refine zz (fun _ _ => lv_aload_n hx hb dX9_init_123 rfl (lv_at hl 0 rfl)) ?_
  refine zz (fun _ _ => lv_bipush (v := 40) hx hb dX9_init_124 (by decide)) ?_
  refine z_newi (N' := 40) C (by decide) (by decide) (by decide) (by decide) (by decide) dX9_init_126 ?_
  refine z_put C fp_X9_56 (fun _ => hnm) ((zup_ne _ _ (by omega)).trans (mq_r _ _ _ _ _ 15)) (Nat.le_of_ble_eq_true rfl) rfl rfl dX9_init_128 ?_
  refine zeq (M' := mq aC r (fun _ => 0) (fun _ _ => 0) R 16) (mq_step rfl rfl) ?_
  refine zsz (sz' := r + (16 + 1)) rfl (zcs (k := 16) (n := 588) rfl rfl ?_)
  refine zz (fun _ _ => lv_aload_n hx hb dX9_init_131 rfl (lv_at hl 0 rfl)) ?_
  refine zz (fun _ _ => lv_bipush (v := 40) hx hb dX9_init_132 (by decide)) ?_
  refine z_newi (N' := 40) C (by decide) (by decide) (by decide) (by decide) (by decide) dX9_init_134 ?_
  refine z_put C fp_X9_59 (fun _ => hnm) ((zup_ne _ _ (by omega)).trans (mq_r _ _ _ _ _ 16)) (Nat.le_of_ble_eq_true rfl) rfl rfl dX9_init_136 ?_
  refine zeq (M' := mq aC r (fun _ => 0) (fun _ _ => 0) R 17) (mq_step rfl rfl) ?_
  refine zsz (sz' := r + (17 + 1)) rfl (zcs (k := 17) (n := 628) rfl rfl ?_)
  refine zz (fun _ _ => lv_aload_n hx hb dX9_init_139 rfl (lv_at hl 0 rfl)) ?_
  refine zz (fun _ _ => lv_iconst (v := 4) hx hb dX9_init_140 (by decide)) ?_
  refine z_newz (N' := 4) C (by decide) (by decide) (by decide) (by decide) (by decide) dX9_init_141 ?_
  refine z_put C fp_X9_62 (fun _ => hnm) ((zup_ne _ _ (by omega)).trans (mq_r _ _ _ _ _ 17)) (Nat.le_of_ble_eq_true rfl) rfl rfl dX9_init_143 ?_
  refine zeq (M' := mq aC r (fun _ => 0) (fun _ _ => 0) R 18) (mq_step rfl rfl) ?_
  refine zsz (sz' := r + (18 + 1)) rfl (zcs (k := 18) (n := 632) rfl rfl ?_)
  refine zz (fun _ _ => lv_aload_n hx hb dX9_init_146 rfl (lv_at hl 0 rfl)) ?_
  refine zz (fun _ _ => lv_bipush (v := 120) hx hb dX9_init_147 (by decide)) ?_
  refine z_newi (N' := 120) C (by decide) (by decide) (by decide) (by decide) (by decide) dX9_init_149 ?_
  refine z_put C fp_X9_65 (fun _ => hnm) ((zup_ne _ _ (by omega)).trans (mq_r _ _ _ _ _ 18)) (Nat.le_of_ble_eq_true rfl) rfl rfl dX9_init_151 ?_
  refine zeq (M' := mq aC r (fun _ => 0) (fun _ _ => 0) R 19) (mq_step rfl rfl) ?_
  refine zsz (sz' := r + (19 + 1)) rfl (zcs (k := 19) (n := 752) rfl rfl ?_)
  refine zz (fun _ _ => lv_aload_n hx hb dX9_init_154 rfl (lv_at hl 0 rfl)) ?_
  refine zz (fun _ _ => lv_bipush (v := 120) hx hb dX9_init_155 (by decide)) ?_
  refine z_newi (N' := 120) C (by decide) (by decide) (by decide) (by decide) (by decide) dX9_init_157 ?_
  refine z_put C fp_X9_68 (fun _ => hnm) ((zup_ne _ _ (by omega)).trans (mq_r _ _ _ _ _ 19)) (Nat.le_of_ble_eq_true rfl) rfl rfl dX9_init_159 ?_
  refine zeq (M' := mq aC r (fun _ => 0) (fun _ _ => 0) R 20) (mq_step rfl rfl) ?_
  refine zsz (sz' := r + (20 + 1)) rfl (zcs (k := 20) (n := 872) rfl rfl ?_)
  refine zz (fun _ _ => lv_aload_n hx hb dX9_init_162 rfl (lv_at hl 0 rfl)) ?_
  refine zz (fun _ _ => lv_bipush (v := 120) hx hb dX9_init_163 (by decide)) ?_
  refine z_newi (N' := 120) C (by decide) (by decide) (by decide) (by decide) (by decide) dX9_init_165 ?_
  refine z_put C fp_X9_71 (fun _ => hnm) ((zup_ne _ _ (by omega)).trans (mq_r _ _ _ _ _ 20)) (Nat.le_of_ble_eq_true rfl) rfl rfl dX9_init_167 ?_
  refine zeq (M' := mq aC r (fun _ => 0) (fun _ _ => 0) R 21) (mq_step rfl rfl) ?_
  refine zsz (sz' := r + (21 + 1)) rfl (zcs (k := 21) (n := 992) rfl rfl ?_)
  refine zz (fun _ _ => lv_aload_n hx hb dX9_init_170 rfl (lv_at hl 0 rfl)) ?_
  refine zz (fun _ _ => lv_bipush (v := 120) hx hb dX9_init_171 (by decide)) ?_
  refine z_newi (N' := 120) C (by decide) (by decide) (by decide) (by decide) (by decide) dX9_init_173 ?_
  refine z_put C fp_X9_74 (fun _ => hnm) ((zup_ne _ _ (by omega)).trans (mq_r _ _ _ _ _ 21)) (Nat.le_of_ble_eq_true rfl) rfl rfl dX9_init_175 ?_
  refine zeq (M' := mq aC r (fun _ => 0) (fun _ _ => 0) R 22) (mq_step rfl rfl) ?_
  refine zsz (sz' := r + (22 + 1)) rfl (zcs (k := 22) (n := 1112) rfl rfl ?_)
  refine zz (fun _ _ => lv_aload_n hx hb dX9_init_178 rfl (lv_at hl 0 rfl)) ?_
  refine zz (fun _ _ => lv_bipush (v := 7) hx hb dX9_init_179 (by decide)) ?_
  refine z_newz (N' := 7) C (by decide) (by decide) (by decide) (by decide) (by decide) dX9_init_181 ?_
  refine z_put C fp_X9_77 (fun _ => hnm) ((zup_ne _ _ (by omega)).trans (mq_r _ _ _ _ _ 22)) (Nat.le_of_ble_eq_true rfl) rfl rfl dX9_init_183 ?_
  refine zeq (M' := mq aC r (fun _ => 0) (fun _ _ => 0) R 23) (mq_step rfl rfl) ?_
  refine zsz (sz' := r + (23 + 1)) rfl (zcs (k := 23) (n := 1119) rfl rfl ?_)
  refine zz (fun _ _ => lv_aload_n hx hb dX9_init_186 rfl (lv_at hl 0 rfl)) ?_
  refine zz (fun _ _ => lv_bipush (v := 120) hx hb dX9_init_187 (by decide)) ?_
  refine z_newi (N' := 120) C (by decide) (by decide) (by decide) (by decide) (by decide) dX9_init_189 ?_
  refine z_put C fp_X9_80 (fun _ => hnm) ((zup_ne _ _ (by omega)).trans (mq_r _ _ _ _ _ 23)) (Nat.le_of_ble_eq_true rfl) rfl rfl dX9_init_191 ?_
  refine zeq (M' := mq aC r (fun _ => 0) (fun _ _ => 0) R 24) (mq_step rfl rfl) ?_
  refine zsz (sz' := r + (24 + 1)) rfl (zcs (k := 24) (n := 1239) rfl rfl ?_)
  refine zz (fun _ _ => lv_aload_n hx hb dX9_init_194 rfl (lv_at hl 0 rfl)) ?_
  refine zz (fun _ _ => lv_bipush (v := 120) hx hb dX9_init_195 (by decide)) ?_
  refine z_newi (N' := 120) C (by decide) (by decide) (by decide) (by decide) (by decide) dX9_init_197 ?_
  refine z_put C fp_X9_83 (fun _ => hnm) ((zup_ne _ _ (by omega)).trans (mq_r _ _ _ _ _ 24)) (Nat.le_of_ble_eq_true rfl) rfl rfl dX9_init_199 ?_
  refine zeq (M' := mq aC r (fun _ => 0) (fun _ _ => 0) R 25) (mq_step rfl rfl) ?_
  refine zsz (sz' := r + (25 + 1)) rfl (zcs (k := 25) (n := 1359) rfl rfl ?_)
  refine zz (fun _ _ => lv_aload_n hx hb dX9_init_202 rfl (lv_at hl 0 rfl)) ?_
  refine zz (fun _ _ => lv_bipush (v := 120) hx hb dX9_init_203 (by decide)) ?_
  refine z_newi (N' := 120) C (by decide) (by decide) (by decide) (by decide) (by decide) dX9_init_205 ?_
  refine z_put C fp_X9_86 (fun _ => hnm) ((zup_ne _ _ (by omega)).trans (mq_r _ _ _ _ _ 25)) (Nat.le_of_ble_eq_true rfl) rfl rfl dX9_init_207 ?_
  refine zeq (M' := mq aC r (fun _ => 0) (fun _ _ => 0) R 26) (mq_step rfl rfl) ?_
  refine zsz (sz' := r + (26 + 1)) rfl (zcs (k := 26) (n := 1479) rfl rfl ?_)
  refine zz (fun _ _ => lv_aload_n hx hb dX9_init_210 rfl (lv_at hl 0 rfl)) ?_
  refine zz (fun _ _ => lv_bipush (v := 120) hx hb dX9_init_211 (by decide)) ?_
  refine z_newi (N' := 120) C (by decide) (by decide) (by decide) (by decide) (by decide) dX9_init_213 ?_
  refine z_put C fp_X9_89 (fun _ => hnm) ((zup_ne _ _ (by omega)).trans (mq_r _ _ _ _ _ 26)) (Nat.le_of_ble_eq_true rfl) rfl rfl dX9_init_215 ?_
  refine zeq (M' := mq aC r (fun _ => 0) (fun _ _ => 0) R 27) (mq_step rfl rfl) ?_
  refine zsz (sz' := r + (27 + 1)) rfl (zcs (k := 27) (n := 1599) rfl rfl ?_)
  refine zz (fun _ _ => lv_aload_n hx hb dX9_init_218 rfl (lv_at hl 0 rfl)) ?_
  refine zz (fun _ _ => lv_bipush (v := 7) hx hb dX9_init_219 (by decide)) ?_
  refine z_newz (N' := 7) C (by decide) (by decide) (by decide) (by decide) (by decide) dX9_init_221 ?_
  refine z_put C fp_X9_92 (fun _ => hnm) ((zup_ne _ _ (by omega)).trans (mq_r _ _ _ _ _ 27)) (Nat.le_of_ble_eq_true rfl) rfl rfl dX9_init_223 ?_
  refine zeq (M' := mq aC r (fun _ => 0) (fun _ _ => 0) R 28) (mq_step rfl rfl) ?_
  refine zsz (sz' := r + (28 + 1)) rfl (zcs (k := 28) (n := 1606) rfl rfl ?_)
  refine zz (fun _ _ => lv_aload_n hx hb dX9_init_226 rfl (lv_at hl 0 rfl)) ?_
  refine zz (fun _ _ => lv_sipush (v := 240) hx hb dX9_init_227 (by decide)) ?_
  refine z_newi (N' := 240) C (by decide) (by decide) (by decide) (by decide) (by decide) dX9_init_230 ?_
  refine z_put C fp_X9_95 (fun _ => hnm) ((zup_ne _ _ (by omega)).trans (mq_r _ _ _ _ _ 28)) (Nat.le_of_ble_eq_true rfl) rfl rfl dX9_init_232 ?_
  refine zeq (M' := mq aC r (fun _ => 0) (fun _ _ => 0) R 29) (mq_step rfl rfl) ?_
  refine zsz (sz' := r + (29 + 1)) rfl (zcs (k := 29) (n := 1846) rfl rfl ?_)
  refine zz (fun _ _ => lv_aload_n hx hb dX9_init_235 rfl (lv_at hl 0 rfl)) ?_
  refine zz (fun _ _ => lv_sipush (v := 240) hx hb dX9_init_236 (by decide)) ?_
  refine z_newi (N' := 240) C (by decide) (by decide) (by decide) (by decide) (by decide) dX9_init_239 ?_
  refine z_put C fp_X9_98 (fun _ => hnm) ((zup_ne _ _ (by omega)).trans (mq_r _ _ _ _ _ 29)) (Nat.le_of_ble_eq_true rfl) rfl rfl dX9_init_241 ?_
  refine zeq (M' := mq aC r (fun _ => 0) (fun _ _ => 0) R 30) (mq_step rfl rfl) ?_
  refine zsz (sz' := r + (30 + 1)) rfl (zcs (k := 30) (n := 2086) rfl rfl ?_)
  refine zz (fun _ _ => lv_aload_n hx hb dX9_init_244 rfl (lv_at hl 0 rfl)) ?_
  refine zz (fun _ _ => lv_sipush (v := 240) hx hb dX9_init_245 (by decide)) ?_
  refine z_newi (N' := 240) C (by decide) (by decide) (by decide) (by decide) (by decide) dX9_init_248 ?_
  refine z_put C fp_X9_101 (fun _ => hnm) ((zup_ne _ _ (by omega)).trans (mq_r _ _ _ _ _ 30)) (Nat.le_of_ble_eq_true rfl) rfl rfl dX9_init_250 ?_
  refine zeq (M' := mq aC r (fun _ => 0) (fun _ _ => 0) R 31) (mq_step rfl rfl) ?_
  refine zsz (sz' := r + (31 + 1)) rfl (zcs (k := 31) (n := 2326) rfl rfl ?_)
  refine zz (fun _ _ => lv_aload_n hx hb dX9_init_253 rfl (lv_at hl 0 rfl)) ?_
  refine zz (fun _ _ => lv_sipush (v := 240) hx hb dX9_init_254 (by decide)) ?_
  refine z_newi (N' := 240) C (by decide) (by decide) (by decide) (by decide) (by decide) dX9_init_257 ?_
  refine z_put C fp_X9_104 (fun _ => hnm) ((zup_ne _ _ (by omega)).trans (mq_r _ _ _ _ _ 31)) (Nat.le_of_ble_eq_true rfl) rfl rfl dX9_init_259 ?_
  refine zeq (M' := mq aC r (fun _ => 0) (fun _ _ => 0) R 32) (mq_step rfl rfl) ?_
  refine zsz (sz' := r + (32 + 1)) rfl (zcs (k := 32) (n := 2566) rfl rfl ?_)
  refine zz (fun _ _ => lv_aload_n hx hb dX9_init_262 rfl (lv_at hl 0 rfl)) ?_
  refine zz (fun _ _ => lv_sipush (v := 240) hx hb dX9_init_263 (by decide)) ?_
  refine z_newz (N' := 240) C (by decide) (by decide) (by decide) (by decide) (by decide) dX9_init_266 ?_
  refine z_put C fp_X9_107 (fun _ => hnm) ((zup_ne _ _ (by omega)).trans (mq_r _ _ _ _ _ 32)) (Nat.le_of_ble_eq_true rfl) rfl rfl dX9_init_268 ?_
  refine zeq (M' := mq aC r (fun _ => 0) (fun _ _ => 0) R 33) (mq_step rfl rfl) ?_
  refine zsz (sz' := r + (33 + 1)) rfl (zcs (k := 33) (n := 2806) rfl rfl ?_)
  refine zz (fun _ _ => lv_aload_n hx hb dX9_init_271 rfl (lv_at hl 0 rfl)) ?_
  refine zz (fun _ _ => lv_bipush (v := 12) hx hb dX9_init_272 (by decide)) ?_
  refine z_newi (N' := 12) C (by decide) (by decide) (by decide) (by decide) (by decide) dX9_init_274 ?_
  refine z_put C fp_X9_110 (fun _ => hnm) ((zup_ne _ _ (by omega)).trans (mq_r _ _ _ _ _ 33)) (Nat.le_of_ble_eq_true rfl) rfl rfl dX9_init_276 ?_
  refine zeq (M' := mq aC r (fun _ => 0) (fun _ _ => 0) R 34) (mq_step rfl rfl) ?_
  refine zsz (sz' := r + (34 + 1)) rfl (zcs (k := 34) (n := 2818) rfl rfl ?_)
  refine zz (fun _ _ => lv_aload_n hx hb dX9_init_279 rfl (lv_at hl 0 rfl)) ?_
  refine zz (fun _ _ => lv_iconst (v := (-1)) hx hb dX9_init_280 (by decide)) ?_
  refine z_put C fp_X9_113 (fun h => by cases h) (mq_r _ _ _ _ _ 34) (Nat.le_of_ble_eq_true rfl) rfl rfl dX9_init_281 ?_
  refine zeq (M' := mq aC r (upd (fun _ => 0) 42 (-1)) (fun _ _ => 0) R 34) (mq_v rfl) ?_
  refine zz (fun _ _ => lv_aload_n hx hb dX9_init_284 rfl (lv_at hl 0 rfl)) ?_
  refine zz (fun _ _ => lv_sipush (v := 20400) hx hb dX9_init_285 (by decide)) ?_
  refine z_newi (N' := 20400) C (by decide) (by decide) (by decide) (by decide) (by decide) dX9_init_288 ?_
  refine z_put C fp_X9_117 (fun _ => hnm) ((zup_ne _ _ (by omega)).trans (mq_r _ _ _ _ _ 34)) (Nat.le_of_ble_eq_true rfl) rfl rfl dX9_init_290 ?_
  refine zeq (M' := mq aC r (upd (fun _ => 0) 42 (-1)) (fun _ _ => 0) R 35) (mq_step rfl rfl) ?_
  refine zsz (sz' := r + (35 + 1)) rfl (zcs (k := 35) (n := 23218) rfl rfl ?_)
  refine zz (fun _ _ => lv_aload_n hx hb dX9_init_293 rfl (lv_at hl 0 rfl)) ?_
  refine zz (fun _ _ => lv_sipush (v := 20400) hx hb dX9_init_294 (by decide)) ?_
  refine z_newi (N' := 20400) C (by decide) (by decide) (by decide) (by decide) (by decide) dX9_init_297 ?_
  refine z_put C fp_X9_120 (fun _ => hnm) ((zup_ne _ _ (by omega)).trans (mq_r _ _ _ _ _ 35)) (Nat.le_of_ble_eq_true rfl) rfl rfl dX9_init_299 ?_
  refine zeq (M' := mq aC r (upd (fun _ => 0) 42 (-1)) (fun _ _ => 0) R 36) (mq_step rfl rfl) ?_
  refine zsz (sz' := r + (36 + 1)) rfl (zcs (k := 36) (n := 43618) rfl rfl ?_)
  refine zz (fun _ _ => lv_aload_n hx hb dX9_init_302 rfl (lv_at hl 0 rfl)) ?_
  refine zz (fun _ _ => lv_bipush (v := 120) hx hb dX9_init_303 (by decide)) ?_
  refine z_newi (N' := 120) C (by decide) (by decide) (by decide) (by decide) (by decide) dX9_init_305 ?_
  refine z_put C fp_X9_123 (fun _ => hnm) ((zup_ne _ _ (by omega)).trans (mq_r _ _ _ _ _ 36)) (Nat.le_of_ble_eq_true rfl) rfl rfl dX9_init_307 ?_
  refine zeq (M' := mq aC r (upd (fun _ => 0) 42 (-1)) (fun _ _ => 0) R 37) (mq_step rfl rfl) ?_
  refine zsz (sz' := r + (37 + 1)) rfl (zcs (k := 37) (n := 43738) rfl rfl ?_)
  refine zz (fun _ _ => lv_aload_n hx hb dX9_init_310 rfl (lv_at hl 0 rfl)) ?_
  refine zz (fun _ _ => lv_iconst (v := 4) hx hb dX9_init_311 (by decide)) ?_
  refine z_newi (N' := 4) C (by decide) (by decide) (by decide) (by decide) (by decide) dX9_init_312 ?_
  refine z_put C fp_X9_126 (fun _ => hnm) ((zup_ne _ _ (by omega)).trans (mq_r _ _ _ _ _ 37)) (Nat.le_of_ble_eq_true rfl) rfl rfl dX9_init_314 ?_
  refine zeq (M' := mq aC r (upd (fun _ => 0) 42 (-1)) (fun _ _ => 0) R 38) (mq_step rfl rfl) ?_
  refine zsz (sz' := r + (38 + 1)) rfl (zcs (k := 38) (n := 43742) rfl rfl ?_)
  refine zeq mq_full ?_
  refine zz (fun _ _ => lv_aload_n hx hb dX9_init_317 rfl (lv_at hl 0 rfl)) ?_
  refine z_get (v := .ref (r + 23)) C fd_X9_77 rm_0 rfl dX9_init_318 ?_
  refine zz (fun _ _ => lv_iconst (v := 0) hx hb dX9_init_321 (by decide)) ?_
  refine zz (fun _ _ => lv_iconst (v := 1) hx hb dX9_init_322 (by decide)) ?_
  refine z_zast (f := (fun _ _ => 0) 23) C rm_23 (in_nI (j := 0) rfl (by decide) (by decide)) rfl dX9_init_323 ?_
  refine zeq wm_23 ?_
  refine zz (fun _ _ => lv_iconst (v := 0) hx hb dX9_init_324 (by decide)) ?_
  refine zs (fun _ _ => lv_istore_n (lv' := [(1, .int (0)), (0, .ref (r))]) hx hb dX9_init_325 rfl hl (by decide) rfl) (fun ls hl => ?_)
  refine zeq (M' := (mm aC r (upd (fun _ => 0) 42 (-1)) (u1 (u1 (fun _ _ => 0) 23 (upd ((fun _ _ => 0) 23) (Int32.toNatClampNeg (0)) (1))) 34 ((fun _ _ => 0) 34)) R)) (by rw [u1_id2 (A := (u1 (fun _ _ => 0) 23 (upd ((fun _ _ => 0) 23) (Int32.toNatClampNeg (0)) (1)))) (k := 34) (g := (fun _ _ => 0) 34) rfl]) ?_
  refine lpX9_init_326 (v := (upd (fun _ => 0) 42 (-1))) (A := (u1 (fun _ _ => 0) 23 (upd ((fun _ _ => 0) 23) (Int32.toNatClampNeg (0)) (1)))) (N_ := 12) C rfl (by decide) (by decide) 12 0 (Nat.zero_add _) _ (lv_sub hl [1, 0] rfl) (fun ls hl => ?_)
  exact z_vret C hr hlk dX9_init_345 ⟨rfl, rfl, rfl⟩
end
section
theorem zup_sw {M : ZM} {a b : Nat} {e f : va_E} (h : a ≠ b) : zup (zup M a e) b f = zup (zup M b f) a e := zup_comm M e f h
set_option maxHeartbeats 4000000 in
set_option maxRecDepth 20000 in
theorem ctX2_init {l : Launch} {D : va_G} {aC : Nat → ClassId} {b0 a sz : Nat} {M : ZM} (ha : M a = some (.inr (2, [.null, .int 0, .int 0]))) (hsz : a < sz) : Ct l D aC b0 yX2_init cX2_init 1 none 0 1 120 [.ref a] M sz (zdz none (zup (zup M a (.inr (2, [.ref sz, .int 0, .int 0]))) sz (.inl (aC 0, 120, .inl (fun _ => 0)))) (sz + 1)) := by
  refine Ct.of (by decide) (Nat.le_of_ble_eq_true rfl) ?_
  intro p e s m below meth c ls C hr hlk hnm hl
  have hl : lv_has ls 1 [(0, .ref a)] := hl
  obtain ⟨hx, hb, -, -, -⟩ := id C
  refine zz (fun _ _ => lv_aload_n hx hb dX2_init_0 rfl (lv_at hl 0 rfl)) ?_
  refine z_obj C hl.1 ob_X2_3 (by decide) (Nat.le_of_ble_eq_true rfl) dX2_init_1 ?_
  refine zz (fun _ _ => lv_aload_n hx hb dX2_init_4 rfl (lv_at hl 0 rfl)) ?_
  refine zz (fun _ _ => lv_bipush (v := 120) hx hb dX2_init_5 (by decide)) ?_
  refine z_newi (N' := 120) C (by decide) (by decide) (by decide) (by decide) (by decide) dX2_init_7 ?_
  refine zsz (sz' := sz + 1) rfl (zcs (k := 1) (n := 120) rfl rfl ?_)
  refine z_put C fp_X2_9 (fun _ => hnm) ((zup_ne _ _ (by omega)).trans (ha)) (Nat.le_of_ble_eq_true rfl) rfl rfl dX2_init_9 ?_
  refine zeq (M' := (zup (zup M a (.inr (2, [.ref sz, .int 0, .int 0]))) sz (.inl (aC 0, 120, .inl (fun _ => 0))))) (by rw [zup_sw (a := sz) (b := a) (by omega)]; first | done | rfl) ?_
  refine zz (fun _ _ => lv_aload_n hx hb dX2_init_12 rfl (lv_at hl 0 rfl)) ?_
  refine zz (fun _ _ => lv_iconst (v := 0) hx hb dX2_init_13 (by decide)) ?_
  refine z_put C fp_X2_15 (fun h => by cases h) ((zup_ne _ _ (by omega)).trans (zup_self _ _ _)) (Nat.le_of_ble_eq_true rfl) rfl rfl dX2_init_14 ?_
  refine zeq (M' := (zup (zup M a (.inr (2, [.ref sz, .int 0, .int 0]))) sz (.inl (aC 0, 120, .inl (fun _ => 0))))) (by rw [zup_sw (a := sz) (b := a) (by omega), zup_zup]; first | done | rfl) ?_
  refine zz (fun _ _ => lv_aload_n hx hb dX2_init_17 rfl (lv_at hl 0 rfl)) ?_
  refine zz (fun _ _ => lv_iconst (v := 0) hx hb dX2_init_18 (by decide)) ?_
  refine z_put C fp_X2_19 (fun h => by cases h) ((zup_ne _ _ (by omega)).trans (zup_self _ _ _)) (Nat.le_of_ble_eq_true rfl) rfl rfl dX2_init_19 ?_
  refine zeq (M' := (zup (zup M a (.inr (2, [.ref sz, .int 0, .int 0]))) sz (.inl (aC 0, 120, .inl (fun _ => 0))))) (by rw [zup_sw (a := sz) (b := a) (by omega), zup_zup]; first | done | rfl) ?_
  exact z_vret C hr hlk dX2_init_22 ⟨rfl, rfl, rfl⟩
set_option maxHeartbeats 4000000 in
set_option maxRecDepth 20000 in
theorem ctX0_init {l : Launch} {D : va_G} {aC : Nat → ClassId} {b0 a sz : Nat} {M : ZM} (ha : M a = some (.inr (0, [.null, .null, .null, .int 0]))) (hsz : a < sz) : Ct l D aC b0 yX0_init cX0_init 1 none 0 3 720 [.ref a] M sz (zdz none (zup (zup (zup (zup M a (.inr (0, [.ref sz, .ref (sz + 1), .ref (sz + 2), .int 0]))) sz (.inl (aC 0, 240, .inl (fun _ => 0)))) (sz + 1) (.inl (aC 0, 240, .inl (fun _ => 0)))) (sz + 2) (.inl (aC 0, 240, .inl (fun _ => 0)))) (sz + 3)) := by
  refine Ct.of (by decide) (Nat.le_of_ble_eq_true rfl) ?_
  intro p e s m below meth c ls C hr hlk hnm hl
  have hl : lv_has ls 1 [(0, .ref a)] := hl
  obtain ⟨hx, hb, -, -, -⟩ := id C
  refine zz (fun _ _ => lv_aload_n hx hb dX0_init_0 rfl (lv_at hl 0 rfl)) ?_
  refine z_obj C hl.1 ob_X0_3 (by decide) (Nat.le_of_ble_eq_true rfl) dX0_init_1 ?_
  refine zz (fun _ _ => lv_aload_n hx hb dX0_init_4 rfl (lv_at hl 0 rfl)) ?_
  refine zz (fun _ _ => lv_sipush (v := 240) hx hb dX0_init_5 (by decide)) ?_
  refine z_newi (N' := 240) C (by decide) (by decide) (by decide) (by decide) (by decide) dX0_init_8 ?_
  refine zsz (sz' := sz + 1) rfl (zcs (k := 1) (n := 240) rfl rfl ?_)
  refine z_put C fp_X0_9 (fun _ => hnm) ((zup_ne _ _ (by omega)).trans (ha)) (Nat.le_of_ble_eq_true rfl) rfl rfl dX0_init_10 ?_
  refine zeq (M' := (zup (zup M a (.inr (0, [.ref sz, .null, .null, .int 0]))) sz (.inl (aC 0, 240, .inl (fun _ => 0))))) (by rw [zup_sw (a := sz) (b := a) (by omega)]; first | done | rfl) ?_
  refine zz (fun _ _ => lv_aload_n hx hb dX0_init_13 rfl (lv_at hl 0 rfl)) ?_
  refine zz (fun _ _ => lv_sipush (v := 240) hx hb dX0_init_14 (by decide)) ?_
  refine z_newi (N' := 240) C (by decide) (by decide) (by decide) (by decide) (by decide) dX0_init_17 ?_
  refine zsz (sz' := sz + 2) rfl (zcs (k := 2) (n := 480) rfl rfl ?_)
  refine z_put C fp_X0_15 (fun _ => hnm) ((zup_ne _ _ (by omega)).trans ((zup_ne _ _ (by omega)).trans (zup_self _ _ _))) (Nat.le_of_ble_eq_true rfl) rfl rfl dX0_init_19 ?_
  refine zeq (M' := (zup (zup (zup M a (.inr (0, [.ref sz, .ref (sz + 1), .null, .int 0]))) sz (.inl (aC 0, 240, .inl (fun _ => 0)))) (sz + 1) (.inl (aC 0, 240, .inl (fun _ => 0))))) (by rw [zup_sw (a := sz + 1) (b := a) (by omega), zup_sw (a := sz) (b := a) (by omega), zup_zup]; first | done | rfl) ?_
  refine zz (fun _ _ => lv_aload_n hx hb dX0_init_22 rfl (lv_at hl 0 rfl)) ?_
  refine zz (fun _ _ => lv_sipush (v := 240) hx hb dX0_init_23 (by decide)) ?_
  refine z_newi (N' := 240) C (by decide) (by decide) (by decide) (by decide) (by decide) dX0_init_26 ?_
  refine zsz (sz' := sz + 3) rfl (zcs (k := 3) (n := 720) rfl rfl ?_)
  refine z_put C fp_X0_18 (fun _ => hnm) ((zup_ne _ _ (by omega)).trans ((zup_ne _ _ (by omega)).trans ((zup_ne _ _ (by omega)).trans (zup_self _ _ _)))) (Nat.le_of_ble_eq_true rfl) rfl rfl dX0_init_28 ?_
  refine zeq (M' := (zup (zup (zup (zup M a (.inr (0, [.ref sz, .ref (sz + 1), .ref (sz + 2), .int 0]))) sz (.inl (aC 0, 240, .inl (fun _ => 0)))) (sz + 1) (.inl (aC 0, 240, .inl (fun _ => 0)))) (sz + 2) (.inl (aC 0, 240, .inl (fun _ => 0))))) (by rw [zup_sw (a := sz + 2) (b := a) (by omega), zup_sw (a := sz + 1) (b := a) (by omega), zup_sw (a := sz) (b := a) (by omega), zup_zup]; first | done | rfl) ?_
  refine zz (fun _ _ => lv_aload_n hx hb dX0_init_31 rfl (lv_at hl 0 rfl)) ?_
  refine zz (fun _ _ => lv_iconst (v := 0) hx hb dX0_init_32 (by decide)) ?_
  refine z_put C fp_X0_21 (fun h => by cases h) ((zup_ne _ _ (by omega)).trans ((zup_ne _ _ (by omega)).trans ((zup_ne _ _ (by omega)).trans (zup_self _ _ _)))) (Nat.le_of_ble_eq_true rfl) rfl rfl dX0_init_33 ?_
  refine zeq (M' := (zup (zup (zup (zup M a (.inr (0, [.ref sz, .ref (sz + 1), .ref (sz + 2), .int 0]))) sz (.inl (aC 0, 240, .inl (fun _ => 0)))) (sz + 1) (.inl (aC 0, 240, .inl (fun _ => 0)))) (sz + 2) (.inl (aC 0, 240, .inl (fun _ => 0))))) (by rw [zup_sw (a := sz + 2) (b := a) (by omega), zup_sw (a := sz + 1) (b := a) (by omega), zup_sw (a := sz) (b := a) (by omega), zup_zup]; first | done | rfl) ?_
  exact z_vret C hr hlk dX0_init_36 ⟨rfl, rfl, rfl⟩
set_option maxHeartbeats 4000000 in
set_option maxRecDepth 20000 in
theorem ctX3_init_6 {l : Launch} {D : va_G} {aC : Nat → ClassId} {b0 a sz : Nat} {M : ZM} (ha : M a = some (.inr (3, [.null, .int 0, .int 0]))) (hsz : a < sz) : Ct l D aC b0 yX3_init cX3_init 2 none 0 1 18 [.ref a, .int 6] M sz (zdz none (zup (zup M a (.inr (3, [.ref sz, .int 6, .int 0]))) sz (.inl (aC 0, 18, .inl (fun _ => 0)))) (sz + 1)) := by
  refine Ct.of (by decide) (Nat.le_of_ble_eq_true rfl) ?_
  intro p e s m below meth c ls C hr hlk hnm hl
  have hl : lv_has ls 2 [(0, .ref a), (1, .int 6)] := hl
  obtain ⟨hx, hb, -, -, -⟩ := id C
  refine zz (fun _ _ => lv_aload_n hx hb dX3_init_0 rfl (lv_at hl 0 rfl)) ?_
  refine z_obj C hl.1 ob_X3_1 (by decide) (Nat.le_of_ble_eq_true rfl) dX3_init_1 ?_
  refine zz (fun _ _ => lv_aload_n hx hb dX3_init_4 rfl (lv_at hl 0 rfl)) ?_
  refine zz (fun _ _ => lv_iconst (v := 0) hx hb dX3_init_5 (by decide)) ?_
  refine z_put C fp_X3_7 (fun h => by cases h) (ha) (Nat.le_of_ble_eq_true rfl) rfl rfl dX3_init_6 ?_
  refine zz (fun _ _ => lv_aload_n hx hb dX3_init_9 rfl (lv_at hl 0 rfl)) ?_
  refine zz (fun _ _ => lv_iload_n hx hb dX3_init_10 rfl (lv_at hl 1 rfl)) ?_
  refine z_put C fp_X3_13 (fun _ => hnm) (zup_self _ _ _) (Nat.le_of_ble_eq_true rfl) rfl rfl dX3_init_11 ?_
  refine zeq (M' := (zup M a (.inr (3, [.null, .int 6, .int 0])))) (by rw [zup_zup]; first | done | rfl) ?_
  refine zz (fun _ _ => lv_aload_n hx hb dX3_init_14 rfl (lv_at hl 0 rfl)) ?_
  refine zz (fun _ _ => lv_iconst (v := 3) hx hb dX3_init_15 (by decide)) ?_
  refine zz (fun _ _ => lv_iload_n hx hb dX3_init_16 rfl (lv_at hl 1 rfl)) ?_
  refine zz (fun _ _ => lv_imul hx hb dX3_init_17) ?_
  refine z_newi (N' := 18) C (by decide) (by decide) (by decide) (by decide) (by decide) dX3_init_18 ?_
  refine zsz (sz' := sz + 1) rfl (zcs (k := 1) (n := 18) rfl rfl ?_)
  refine z_put C fp_X3_16 (fun _ => hnm) ((zup_ne _ _ (by omega)).trans (zup_self _ _ _)) (Nat.le_of_ble_eq_true rfl) rfl rfl dX3_init_20 ?_
  refine zeq (M' := (zup (zup M a (.inr (3, [.ref sz, .int 6, .int 0]))) sz (.inl (aC 0, 18, .inl (fun _ => 0))))) (by rw [zup_sw (a := sz) (b := a) (by omega), zup_zup]; first | done | rfl) ?_
  exact z_vret C hr hlk dX3_init_23 ⟨rfl, rfl, rfl⟩
set_option maxHeartbeats 4000000 in
set_option maxRecDepth 20000 in
theorem ctX3_init_4 {l : Launch} {D : va_G} {aC : Nat → ClassId} {b0 a sz : Nat} {M : ZM} (ha : M a = some (.inr (3, [.null, .int 0, .int 0]))) (hsz : a < sz) : Ct l D aC b0 yX3_init cX3_init 2 none 0 1 12 [.ref a, .int 4] M sz (zdz none (zup (zup M a (.inr (3, [.ref sz, .int 4, .int 0]))) sz (.inl (aC 0, 12, .inl (fun _ => 0)))) (sz + 1)) := by
  refine Ct.of (by decide) (Nat.le_of_ble_eq_true rfl) ?_
  intro p e s m below meth c ls C hr hlk hnm hl
  have hl : lv_has ls 2 [(0, .ref a), (1, .int 4)] := hl
  obtain ⟨hx, hb, -, -, -⟩ := id C
  refine zz (fun _ _ => lv_aload_n hx hb dX3_init_0 rfl (lv_at hl 0 rfl)) ?_
  refine z_obj C hl.1 ob_X3_1 (by decide) (Nat.le_of_ble_eq_true rfl) dX3_init_1 ?_
  refine zz (fun _ _ => lv_aload_n hx hb dX3_init_4 rfl (lv_at hl 0 rfl)) ?_
  refine zz (fun _ _ => lv_iconst (v := 0) hx hb dX3_init_5 (by decide)) ?_
  refine z_put C fp_X3_7 (fun h => by cases h) (ha) (Nat.le_of_ble_eq_true rfl) rfl rfl dX3_init_6 ?_
  refine zz (fun _ _ => lv_aload_n hx hb dX3_init_9 rfl (lv_at hl 0 rfl)) ?_
  refine zz (fun _ _ => lv_iload_n hx hb dX3_init_10 rfl (lv_at hl 1 rfl)) ?_
  refine z_put C fp_X3_13 (fun _ => hnm) (zup_self _ _ _) (Nat.le_of_ble_eq_true rfl) rfl rfl dX3_init_11 ?_
  refine zeq (M' := (zup M a (.inr (3, [.null, .int 4, .int 0])))) (by rw [zup_zup]; first | done | rfl) ?_
  refine zz (fun _ _ => lv_aload_n hx hb dX3_init_14 rfl (lv_at hl 0 rfl)) ?_
  refine zz (fun _ _ => lv_iconst (v := 3) hx hb dX3_init_15 (by decide)) ?_
  refine zz (fun _ _ => lv_iload_n hx hb dX3_init_16 rfl (lv_at hl 1 rfl)) ?_
  refine zz (fun _ _ => lv_imul hx hb dX3_init_17) ?_
  refine z_newi (N' := 12) C (by decide) (by decide) (by decide) (by decide) (by decide) dX3_init_18 ?_
  refine zsz (sz' := sz + 1) rfl (zcs (k := 1) (n := 12) rfl rfl ?_)
  refine z_put C fp_X3_16 (fun _ => hnm) ((zup_ne _ _ (by omega)).trans (zup_self _ _ _)) (Nat.le_of_ble_eq_true rfl) rfl rfl dX3_init_20 ?_
  refine zeq (M' := (zup (zup M a (.inr (3, [.ref sz, .int 4, .int 0]))) sz (.inl (aC 0, 12, .inl (fun _ => 0))))) (by rw [zup_sw (a := sz) (b := a) (by omega), zup_zup]; first | done | rfl) ?_
  exact z_vret C hr hlk dX3_init_23 ⟨rfl, rfl, rfl⟩
set_option maxHeartbeats 4000000 in
set_option maxRecDepth 20000 in
theorem ctX3_init_10 {l : Launch} {D : va_G} {aC : Nat → ClassId} {b0 a sz : Nat} {M : ZM} (ha : M a = some (.inr (3, [.null, .int 0, .int 0]))) (hsz : a < sz) : Ct l D aC b0 yX3_init cX3_init 2 none 0 1 30 [.ref a, .int 10] M sz (zdz none (zup (zup M a (.inr (3, [.ref sz, .int 10, .int 0]))) sz (.inl (aC 0, 30, .inl (fun _ => 0)))) (sz + 1)) := by
  refine Ct.of (by decide) (Nat.le_of_ble_eq_true rfl) ?_
  intro p e s m below meth c ls C hr hlk hnm hl
  have hl : lv_has ls 2 [(0, .ref a), (1, .int 10)] := hl
  obtain ⟨hx, hb, -, -, -⟩ := id C
  refine zz (fun _ _ => lv_aload_n hx hb dX3_init_0 rfl (lv_at hl 0 rfl)) ?_
  refine z_obj C hl.1 ob_X3_1 (by decide) (Nat.le_of_ble_eq_true rfl) dX3_init_1 ?_
  refine zz (fun _ _ => lv_aload_n hx hb dX3_init_4 rfl (lv_at hl 0 rfl)) ?_
  refine zz (fun _ _ => lv_iconst (v := 0) hx hb dX3_init_5 (by decide)) ?_
  refine z_put C fp_X3_7 (fun h => by cases h) (ha) (Nat.le_of_ble_eq_true rfl) rfl rfl dX3_init_6 ?_
  refine zz (fun _ _ => lv_aload_n hx hb dX3_init_9 rfl (lv_at hl 0 rfl)) ?_
  refine zz (fun _ _ => lv_iload_n hx hb dX3_init_10 rfl (lv_at hl 1 rfl)) ?_
  refine z_put C fp_X3_13 (fun _ => hnm) (zup_self _ _ _) (Nat.le_of_ble_eq_true rfl) rfl rfl dX3_init_11 ?_
  refine zeq (M' := (zup M a (.inr (3, [.null, .int 10, .int 0])))) (by rw [zup_zup]; first | done | rfl) ?_
  refine zz (fun _ _ => lv_aload_n hx hb dX3_init_14 rfl (lv_at hl 0 rfl)) ?_
  refine zz (fun _ _ => lv_iconst (v := 3) hx hb dX3_init_15 (by decide)) ?_
  refine zz (fun _ _ => lv_iload_n hx hb dX3_init_16 rfl (lv_at hl 1 rfl)) ?_
  refine zz (fun _ _ => lv_imul hx hb dX3_init_17) ?_
  refine z_newi (N' := 30) C (by decide) (by decide) (by decide) (by decide) (by decide) dX3_init_18 ?_
  refine zsz (sz' := sz + 1) rfl (zcs (k := 1) (n := 30) rfl rfl ?_)
  refine z_put C fp_X3_16 (fun _ => hnm) ((zup_ne _ _ (by omega)).trans (zup_self _ _ _)) (Nat.le_of_ble_eq_true rfl) rfl rfl dX3_init_20 ?_
  refine zeq (M' := (zup (zup M a (.inr (3, [.ref sz, .int 10, .int 0]))) sz (.inl (aC 0, 30, .inl (fun _ => 0))))) (by rw [zup_sw (a := sz) (b := a) (by omega), zup_zup]; first | done | rfl) ?_
  exact z_vret C hr hlk dX3_init_23 ⟨rfl, rfl, rfl⟩
set_option maxHeartbeats 4000000 in
set_option maxRecDepth 20000 in
theorem ctX1_init {l : Launch} {D : va_G} {aC : Nat → ClassId} {b0 a sz : Nat} {M : ZM} (ha : M a = some (.inr (1, [.null, .int 0]))) (hsz : a < sz) : Ct l D aC b0 yX1_init cX1_init 1 none 1 2 33 [.ref a] M sz (zdz none (zup (zup (zup M a (.inr (1, [.ref sz, .int 0]))) sz (.inr (3, [.ref (sz + 1), .int 10, .int 0]))) (sz + 1) (.inl (aC 0, 30, .inl (fun _ => 0)))) (sz + 2)) := by
  refine Ct.of (by decide) (Nat.le_of_ble_eq_true rfl) ?_
  intro p e s m below meth c ls C hr hlk hnm hl
  have hl : lv_has ls 1 [(0, .ref a)] := hl
  obtain ⟨hx, hb, -, -, -⟩ := id C
  refine zz (fun _ _ => lv_aload_n hx hb dX1_init_0 rfl (lv_at hl 0 rfl)) ?_
  refine z_obj C hl.1 ob_X1_3 (by decide) (Nat.le_of_ble_eq_true rfl) dX1_init_1 ?_
  refine zz (fun _ _ => lv_aload_n hx hb dX1_init_4 rfl (lv_at hl 0 rfl)) ?_
  refine z_new C nw_X1_9 (by decide) (by decide) dX1_init_5 ?_
  refine zsz (sz' := sz + 1) rfl (zcs (k := 1) (n := 3) rfl rfl ?_)
  refine zz (fun _ _ => lv_dup hx hb dX1_init_8 rfl) ?_
  refine zz (fun _ _ => lv_bipush (v := 10) hx hb dX1_init_9 (by decide)) ?_
  refine zdI (As := [.int 10]) (rest := [.ref sz, .ref a]) C hl.1 lk_X1_11 (ctX3_init_10 (zup_self _ _ _) (by omega)) rfl rfl (Nat.le_of_ble_eq_true rfl) ⟨by decide, by decide, by decide, by decide⟩ dX1_init_11 ?_
  refine zeq (M' := (zup (zup M sz (.inr (3, [.ref (sz + 1), .int 10, .int 0]))) (sz + 1) (.inl (aC 0, 30, .inl (fun _ => 0))))) (by simp only [zup_zup, Nat.add_assoc, Nat.reduceAdd]) ?_
  refine zsz (sz' := sz + 2) rfl (zcs (k := 2) (n := 33) rfl rfl ?_)
  refine z_put C fp_X1_14 (fun _ => hnm) ((zup_ne _ _ (by omega)).trans ((zup_ne _ _ (by omega)).trans (ha))) (Nat.le_of_ble_eq_true rfl) rfl rfl dX1_init_14 ?_
  refine zeq (M' := (zup (zup (zup M a (.inr (1, [.ref sz, .int 0]))) sz (.inr (3, [.ref (sz + 1), .int 10, .int 0]))) (sz + 1) (.inl (aC 0, 30, .inl (fun _ => 0))))) (by rw [zup_sw (a := sz + 1) (b := a) (by omega), zup_sw (a := sz) (b := a) (by omega)]; first | done | rfl) ?_
  refine zz (fun _ _ => lv_aload_n hx hb dX1_init_17 rfl (lv_at hl 0 rfl)) ?_
  refine zz (fun _ _ => lv_iconst (v := 0) hx hb dX1_init_18 (by decide)) ?_
  refine z_put C fp_X1_20 (fun h => by cases h) ((zup_ne _ _ (by omega)).trans ((zup_ne _ _ (by omega)).trans (zup_self _ _ _))) (Nat.le_of_ble_eq_true rfl) rfl rfl dX1_init_19 ?_
  refine zeq (M' := (zup (zup (zup M a (.inr (1, [.ref sz, .int 0]))) sz (.inr (3, [.ref (sz + 1), .int 10, .int 0]))) (sz + 1) (.inl (aC 0, 30, .inl (fun _ => 0))))) (by rw [zup_sw (a := sz + 1) (b := a) (by omega), zup_sw (a := sz) (b := a) (by omega), zup_zup]; first | done | rfl) ?_
  exact z_vret C hr hlk dX1_init_22 ⟨rfl, rfl, rfl⟩
set_option maxHeartbeats 4000000 in
set_option maxRecDepth 20000 in
theorem ctX5_init {l : Launch} {D : va_G} {aC : Nat → ClassId} {b0 a sz : Nat} {M : ZM} (ha : M a = some (.inr (5, [.null, .null, .null, .int 0, .int 0, .int 0, .int 0, .int 0]))) (hsz : a < sz) : Ct l D aC b0 yX5_init cX5_init 1 none 1 5 42 [.ref a] M sz (zdz none (zup (zup (zup (zup (zup (zup M a (.inr (5, [.ref sz, .ref (sz + 2), .ref (sz + 3), .int 0, .int 0, .int 0, .int 0, .int (-1)]))) sz (.inr (3, [.ref (sz + 1), .int 6, .int 0]))) (sz + 1) (.inl (aC 0, 18, .inl (fun _ => 0)))) (sz + 2) (.inl (aC 1, 6, .inl (fun _ => 0)))) (sz + 3) (.inr (3, [.ref (sz + 4), .int 4, .int 0]))) (sz + 4) (.inl (aC 0, 12, .inl (fun _ => 0)))) (sz + 5)) := by
  refine Ct.of (by decide) (Nat.le_of_ble_eq_true rfl) ?_
  intro p e s m below meth c ls C hr hlk hnm hl
  have hl : lv_has ls 1 [(0, .ref a)] := hl
  obtain ⟨hx, hb, -, -, -⟩ := id C
  refine zz (fun _ _ => lv_aload_n hx hb dX5_init_0 rfl (lv_at hl 0 rfl)) ?_
  refine z_obj C hl.1 ob_X5_3 (by decide) (Nat.le_of_ble_eq_true rfl) dX5_init_1 ?_
  refine zz (fun _ _ => lv_aload_n hx hb dX5_init_4 rfl (lv_at hl 0 rfl)) ?_
  refine z_new C nw_X5_9 (by decide) (by decide) dX5_init_5 ?_
  refine zsz (sz' := sz + 1) rfl (zcs (k := 1) (n := 3) rfl rfl ?_)
  refine zz (fun _ _ => lv_dup hx hb dX5_init_8 rfl) ?_
  refine zz (fun _ _ => lv_bipush (v := 6) hx hb dX5_init_9 (by decide)) ?_
  refine zdI (As := [.int 6]) (rest := [.ref sz, .ref a]) C hl.1 lk_X5_11 (ctX3_init_6 (zup_self _ _ _) (by omega)) rfl rfl (Nat.le_of_ble_eq_true rfl) ⟨by decide, by decide, by decide, by decide⟩ dX5_init_11 ?_
  refine zeq (M' := (zup (zup M sz (.inr (3, [.ref (sz + 1), .int 6, .int 0]))) (sz + 1) (.inl (aC 0, 18, .inl (fun _ => 0))))) (by simp only [zup_zup, Nat.add_assoc, Nat.reduceAdd]) ?_
  refine zsz (sz' := sz + 2) rfl (zcs (k := 2) (n := 21) rfl rfl ?_)
  refine z_put C fp_X5_14 (fun _ => hnm) ((zup_ne _ _ (by omega)).trans ((zup_ne _ _ (by omega)).trans (ha))) (Nat.le_of_ble_eq_true rfl) rfl rfl dX5_init_14 ?_
  refine zeq (M' := (zup (zup (zup M a (.inr (5, [.ref sz, .null, .null, .int 0, .int 0, .int 0, .int 0, .int 0]))) sz (.inr (3, [.ref (sz + 1), .int 6, .int 0]))) (sz + 1) (.inl (aC 0, 18, .inl (fun _ => 0))))) (by rw [zup_sw (a := sz + 1) (b := a) (by omega), zup_sw (a := sz) (b := a) (by omega)]; first | done | rfl) ?_
  refine zz (fun _ _ => lv_aload_n hx hb dX5_init_17 rfl (lv_at hl 0 rfl)) ?_
  refine zz (fun _ _ => lv_bipush (v := 6) hx hb dX5_init_18 (by decide)) ?_
  refine z_newz (N' := 6) C (by decide) (by decide) (by decide) (by decide) (by decide) dX5_init_20 ?_
  refine zsz (sz' := sz + 3) rfl (zcs (k := 3) (n := 27) rfl rfl ?_)
  refine z_put C fp_X5_20 (fun _ => hnm) ((zup_ne _ _ (by omega)).trans ((zup_ne _ _ (by omega)).trans ((zup_ne _ _ (by omega)).trans (zup_self _ _ _)))) (Nat.le_of_ble_eq_true rfl) rfl rfl dX5_init_22 ?_
  refine zeq (M' := (zup (zup (zup (zup M a (.inr (5, [.ref sz, .ref (sz + 2), .null, .int 0, .int 0, .int 0, .int 0, .int 0]))) sz (.inr (3, [.ref (sz + 1), .int 6, .int 0]))) (sz + 1) (.inl (aC 0, 18, .inl (fun _ => 0)))) (sz + 2) (.inl (aC 1, 6, .inl (fun _ => 0))))) (by rw [zup_sw (a := sz + 2) (b := a) (by omega), zup_sw (a := sz + 1) (b := a) (by omega), zup_sw (a := sz) (b := a) (by omega), zup_zup]; first | done | rfl) ?_
  refine zz (fun _ _ => lv_aload_n hx hb dX5_init_25 rfl (lv_at hl 0 rfl)) ?_
  refine z_new C nw_X5_9 (by decide) (by decide) dX5_init_26 ?_
  refine zsz (sz' := sz + 4) rfl (zcs (k := 4) (n := 30) rfl rfl ?_)
  refine zz (fun _ _ => lv_dup hx hb dX5_init_29 rfl) ?_
  refine zz (fun _ _ => lv_iconst (v := 4) hx hb dX5_init_30 (by decide)) ?_
  refine zdI (As := [.int 4]) (rest := [.ref (sz + 3), .ref a]) C hl.1 lk_X5_11 (ctX3_init_4 (zup_self _ _ _) (by omega)) rfl rfl (Nat.le_of_ble_eq_true rfl) ⟨by decide, by decide, by decide, by decide⟩ dX5_init_31 ?_
  refine zeq (M' := (zup (zup (zup (zup (zup (zup M a (.inr (5, [.ref sz, .ref (sz + 2), .null, .int 0, .int 0, .int 0, .int 0, .int 0]))) sz (.inr (3, [.ref (sz + 1), .int 6, .int 0]))) (sz + 1) (.inl (aC 0, 18, .inl (fun _ => 0)))) (sz + 2) (.inl (aC 1, 6, .inl (fun _ => 0)))) (sz + 3) (.inr (3, [.ref (sz + 4), .int 4, .int 0]))) (sz + 4) (.inl (aC 0, 12, .inl (fun _ => 0))))) (by simp only [zup_zup, Nat.add_assoc, Nat.reduceAdd]) ?_
  refine zsz (sz' := sz + 5) rfl (zcs (k := 5) (n := 42) rfl rfl ?_)
  refine z_put C fp_X5_24 (fun _ => hnm) ((zup_ne _ _ (by omega)).trans ((zup_ne _ _ (by omega)).trans ((zup_ne _ _ (by omega)).trans ((zup_ne _ _ (by omega)).trans ((zup_ne _ _ (by omega)).trans (zup_self _ _ _)))))) (Nat.le_of_ble_eq_true rfl) rfl rfl dX5_init_34 ?_
  refine zeq (M' := (zup (zup (zup (zup (zup (zup M a (.inr (5, [.ref sz, .ref (sz + 2), .ref (sz + 3), .int 0, .int 0, .int 0, .int 0, .int 0]))) sz (.inr (3, [.ref (sz + 1), .int 6, .int 0]))) (sz + 1) (.inl (aC 0, 18, .inl (fun _ => 0)))) (sz + 2) (.inl (aC 1, 6, .inl (fun _ => 0)))) (sz + 3) (.inr (3, [.ref (sz + 4), .int 4, .int 0]))) (sz + 4) (.inl (aC 0, 12, .inl (fun _ => 0))))) (by rw [zup_sw (a := sz + 4) (b := a) (by omega), zup_sw (a := sz + 3) (b := a) (by omega), zup_sw (a := sz + 2) (b := a) (by omega), zup_sw (a := sz + 1) (b := a) (by omega), zup_sw (a := sz) (b := a) (by omega), zup_zup]; first | done | rfl) ?_
  refine zz (fun _ _ => lv_aload_n hx hb dX5_init_37 rfl (lv_at hl 0 rfl)) ?_
  refine zz (fun _ _ => lv_iconst (v := 0) hx hb dX5_init_38 (by decide)) ?_
  refine z_put C fp_X5_27 (fun h => by cases h) ((zup_ne _ _ (by omega)).trans ((zup_ne _ _ (by omega)).trans ((zup_ne _ _ (by omega)).trans ((zup_ne _ _ (by omega)).trans ((zup_ne _ _ (by omega)).trans (zup_self _ _ _)))))) (Nat.le_of_ble_eq_true rfl) rfl rfl dX5_init_39 ?_
  refine zeq (M' := (zup (zup (zup (zup (zup (zup M a (.inr (5, [.ref sz, .ref (sz + 2), .ref (sz + 3), .int 0, .int 0, .int 0, .int 0, .int 0]))) sz (.inr (3, [.ref (sz + 1), .int 6, .int 0]))) (sz + 1) (.inl (aC 0, 18, .inl (fun _ => 0)))) (sz + 2) (.inl (aC 1, 6, .inl (fun _ => 0)))) (sz + 3) (.inr (3, [.ref (sz + 4), .int 4, .int 0]))) (sz + 4) (.inl (aC 0, 12, .inl (fun _ => 0))))) (by rw [zup_sw (a := sz + 4) (b := a) (by omega), zup_sw (a := sz + 3) (b := a) (by omega), zup_sw (a := sz + 2) (b := a) (by omega), zup_sw (a := sz + 1) (b := a) (by omega), zup_sw (a := sz) (b := a) (by omega), zup_zup]; first | done | rfl) ?_
  refine zz (fun _ _ => lv_aload_n hx hb dX5_init_42 rfl (lv_at hl 0 rfl)) ?_
  refine zz (fun _ _ => lv_iconst (v := 0) hx hb dX5_init_43 (by decide)) ?_
  refine z_put C fp_X5_31 (fun h => by cases h) ((zup_ne _ _ (by omega)).trans ((zup_ne _ _ (by omega)).trans ((zup_ne _ _ (by omega)).trans ((zup_ne _ _ (by omega)).trans ((zup_ne _ _ (by omega)).trans (zup_self _ _ _)))))) (Nat.le_of_ble_eq_true rfl) rfl rfl dX5_init_44 ?_
  refine zeq (M' := (zup (zup (zup (zup (zup (zup M a (.inr (5, [.ref sz, .ref (sz + 2), .ref (sz + 3), .int 0, .int 0, .int 0, .int 0, .int 0]))) sz (.inr (3, [.ref (sz + 1), .int 6, .int 0]))) (sz + 1) (.inl (aC 0, 18, .inl (fun _ => 0)))) (sz + 2) (.inl (aC 1, 6, .inl (fun _ => 0)))) (sz + 3) (.inr (3, [.ref (sz + 4), .int 4, .int 0]))) (sz + 4) (.inl (aC 0, 12, .inl (fun _ => 0))))) (by rw [zup_sw (a := sz + 4) (b := a) (by omega), zup_sw (a := sz + 3) (b := a) (by omega), zup_sw (a := sz + 2) (b := a) (by omega), zup_sw (a := sz + 1) (b := a) (by omega), zup_sw (a := sz) (b := a) (by omega), zup_zup]; first | done | rfl) ?_
  refine zz (fun _ _ => lv_aload_n hx hb dX5_init_47 rfl (lv_at hl 0 rfl)) ?_
  refine zz (fun _ _ => lv_iconst (v := 0) hx hb dX5_init_48 (by decide)) ?_
  refine z_put C fp_X5_34 (fun h => by cases h) ((zup_ne _ _ (by omega)).trans ((zup_ne _ _ (by omega)).trans ((zup_ne _ _ (by omega)).trans ((zup_ne _ _ (by omega)).trans ((zup_ne _ _ (by omega)).trans (zup_self _ _ _)))))) (Nat.le_of_ble_eq_true rfl) rfl rfl dX5_init_49 ?_
  refine zeq (M' := (zup (zup (zup (zup (zup (zup M a (.inr (5, [.ref sz, .ref (sz + 2), .ref (sz + 3), .int 0, .int 0, .int 0, .int 0, .int 0]))) sz (.inr (3, [.ref (sz + 1), .int 6, .int 0]))) (sz + 1) (.inl (aC 0, 18, .inl (fun _ => 0)))) (sz + 2) (.inl (aC 1, 6, .inl (fun _ => 0)))) (sz + 3) (.inr (3, [.ref (sz + 4), .int 4, .int 0]))) (sz + 4) (.inl (aC 0, 12, .inl (fun _ => 0))))) (by rw [zup_sw (a := sz + 4) (b := a) (by omega), zup_sw (a := sz + 3) (b := a) (by omega), zup_sw (a := sz + 2) (b := a) (by omega), zup_sw (a := sz + 1) (b := a) (by omega), zup_sw (a := sz) (b := a) (by omega), zup_zup]; first | done | rfl) ?_
  refine zz (fun _ _ => lv_aload_n hx hb dX5_init_52 rfl (lv_at hl 0 rfl)) ?_
  refine zz (fun _ _ => lv_iconst (v := 0) hx hb dX5_init_53 (by decide)) ?_
  refine z_put C fp_X5_37 (fun h => by cases h) ((zup_ne _ _ (by omega)).trans ((zup_ne _ _ (by omega)).trans ((zup_ne _ _ (by omega)).trans ((zup_ne _ _ (by omega)).trans ((zup_ne _ _ (by omega)).trans (zup_self _ _ _)))))) (Nat.le_of_ble_eq_true rfl) rfl rfl dX5_init_54 ?_
  refine zeq (M' := (zup (zup (zup (zup (zup (zup M a (.inr (5, [.ref sz, .ref (sz + 2), .ref (sz + 3), .int 0, .int 0, .int 0, .int 0, .int 0]))) sz (.inr (3, [.ref (sz + 1), .int 6, .int 0]))) (sz + 1) (.inl (aC 0, 18, .inl (fun _ => 0)))) (sz + 2) (.inl (aC 1, 6, .inl (fun _ => 0)))) (sz + 3) (.inr (3, [.ref (sz + 4), .int 4, .int 0]))) (sz + 4) (.inl (aC 0, 12, .inl (fun _ => 0))))) (by rw [zup_sw (a := sz + 4) (b := a) (by omega), zup_sw (a := sz + 3) (b := a) (by omega), zup_sw (a := sz + 2) (b := a) (by omega), zup_sw (a := sz + 1) (b := a) (by omega), zup_sw (a := sz) (b := a) (by omega), zup_zup]; first | done | rfl) ?_
  refine zz (fun _ _ => lv_aload_n hx hb dX5_init_57 rfl (lv_at hl 0 rfl)) ?_
  refine zz (fun _ _ => lv_iconst (v := (-1)) hx hb dX5_init_58 (by decide)) ?_
  refine z_put C fp_X5_41 (fun h => by cases h) ((zup_ne _ _ (by omega)).trans ((zup_ne _ _ (by omega)).trans ((zup_ne _ _ (by omega)).trans ((zup_ne _ _ (by omega)).trans ((zup_ne _ _ (by omega)).trans (zup_self _ _ _)))))) (Nat.le_of_ble_eq_true rfl) rfl rfl dX5_init_59 ?_
  refine zeq (M' := (zup (zup (zup (zup (zup (zup M a (.inr (5, [.ref sz, .ref (sz + 2), .ref (sz + 3), .int 0, .int 0, .int 0, .int 0, .int (-1)]))) sz (.inr (3, [.ref (sz + 1), .int 6, .int 0]))) (sz + 1) (.inl (aC 0, 18, .inl (fun _ => 0)))) (sz + 2) (.inl (aC 1, 6, .inl (fun _ => 0)))) (sz + 3) (.inr (3, [.ref (sz + 4), .int 4, .int 0]))) (sz + 4) (.inl (aC 0, 12, .inl (fun _ => 0))))) (by rw [zup_sw (a := sz + 4) (b := a) (by omega), zup_sw (a := sz + 3) (b := a) (by omega), zup_sw (a := sz + 2) (b := a) (by omega), zup_sw (a := sz + 1) (b := a) (by omega), zup_sw (a := sz) (b := a) (by omega), zup_zup]; first | done | rfl) ?_
  exact z_vret C hr hlk dX5_init_62 ⟨rfl, rfl, rfl⟩
end
section
/-- the cells of a Store while its graphs are made: j of them are there -/
def sM (aC : Nat → ClassId) (M : ZM) (sz j : Nat) : ZM := fun q => if q = sz then some (.inl (aC 3, 7, .inr (.inr (.inr (.inr (fun i => if i < j then some (sz + (1 + 2 * i)) else none)))))) else if sz < q ∧ q < sz + (1 + 2 * j) then (if (q - sz) % 2 = 1 then some (.inr (2, [.ref (q + 1), .int 0, .int 0])) else some (.inl (aC 0, 120, .inl (fun _ => 0)))) else M q
theorem sM_sz (aC : Nat → ClassId) (M : ZM) (sz j : Nat) : sM aC M sz j sz = some (.inl (aC 3, 7, .inr (.inr (.inr (.inr (fun i => if i < j then some (sz + (1 + 2 * i)) else none)))))) := by simp [sM]
theorem sM_out (aC : Nat → ClassId) (M : ZM) {sz j q : Nat} (h : q < sz ∨ sz + (1 + 2 * j) ≤ q) : sM aC M sz j q = M q := by
  simp only [sM]
  rw [if_neg (by omega), if_neg (by omega)]
theorem sM_g (aC : Nat → ClassId) (M : ZM) {sz j i : Nat} (h : i < j) : sM aC M sz j (sz + (1 + 2 * i)) = some (.inr (2, [.ref (sz + (1 + 2 * i) + 1), .int 0, .int 0])) := by
  simp only [sM]
  rw [if_neg (by omega), if_pos (by omega), if_pos (by omega)]
theorem sM_0 (aC : Nat → ClassId) (M : ZM) (sz : Nat) : zup M sz (.inl (aC 3, 7, .inr (.inr (.inr (.inr (fun _ => none)))))) = sM aC M sz 0 := by
  funext q
  by_cases h : q = sz
  · subst h; rw [zup_self, sM_sz]; simp
  · rw [zup_ne _ _ h, sM_out _ _ (by omega)]
theorem sM_s (aC : Nat → ClassId) (M : ZM) (sz j : Nat) : zup (zup (zup (zup (sM aC M sz j) (sz + (1 + 2 * j)) (.inr (2, [.null, .int 0, .int 0]))) (sz + (1 + 2 * j)) (.inr (2, [.ref (sz + (1 + 2 * j) + 1), .int 0, .int 0]))) (sz + (1 + 2 * j) + 1) (.inl (aC 0, 120, .inl (fun _ => 0)))) sz (.inl (aC 3, 7, .inr (.inr (.inr (.inr (va_up (fun i => if i < j then some (sz + (1 + 2 * i)) else none) j (some (sz + (1 + 2 * j))))))))) = sM aC M sz (j + 1) := by
  funext q
  by_cases h : q = sz
  · subst h
    rw [zup_self, sM_sz]
    refine congrArg (fun g => some (Sum.inl (aC 3, 7, Sum.inr (Sum.inr (Sum.inr (Sum.inr g)))))) (funext fun i => ?_)
    by_cases h1 : i = j
    · subst h1; simp [va_up]
    · by_cases h2 : i < j
      · simp [va_up, h1, h2, Nat.lt_succ_of_lt h2]
      · simp [va_up, h1, h2, show ¬ i < j + 1 by omega]
  · rw [zup_ne _ _ h]
    by_cases h1 : q = sz + (1 + 2 * j) + 1
    · subst h1
      rw [zup_self]
      simp only [sM]
      rw [if_neg (by omega), if_pos (by omega), if_neg (by omega)]
    · rw [zup_ne _ _ h1]
      by_cases h2 : q = sz + (1 + 2 * j)
      · subst h2
        rw [zup_self]
        simp only [sM]
        rw [if_neg (by omega), if_pos (by omega), if_pos (by omega)]
      · rw [zup_ne _ _ h2, zup_ne _ _ h2]
        simp only [sM]
        rw [if_neg h, if_neg h]
        by_cases h3 : sz < q ∧ q < sz + (1 + 2 * j)
        · rw [if_pos h3, if_pos (show sz < q ∧ q < sz + (1 + 2 * (j + 1)) from ⟨h3.1, by omega⟩)]
        · rw [if_neg h3, if_neg (by omega)]
set_option maxHeartbeats 4000000 in
set_option maxRecDepth 20000 in
theorem lpX6_init {p : Program} {l : Launch} {e : Env} {s : State} {m : MethodId} {args : Array Value} {below : List Frame} {meth : Method} {c : Code} {D : va_G} {aC : Nat → ClassId} {b0 a sz : Nat} {Q : State → Prop} {M : ZM} (C : zC p l s m c D aC b0 RX6 cX6_init 2) (ha : M a = some (.inr (6, [.ref sz, .int 0]))) (hsz : a < sz) :
    ∀ (d j : Nat), j + d = 7 → ∀ (ls : Array Slot), lv_has ls 2 [(0, .ref a), (1, .int (nI j))] → (∀ (ls : Array Slot), lv_has ls 2 [(0, .ref a), (1, .int (nI 7))] → Z p l e (rz 1 15 868) s m args below meth c D b0 (sM aC M sz 7) (sz + (1 + 2 * 7)) (1 + 2 * 7) (7 + 123 * 7) Q (F0 m 45 ls [])) → Z p l e (rz 1 15 868) s m args below meth c D b0 (sM aC M sz j) (sz + (1 + 2 * j)) (1 + 2 * j) (7 + 123 * j) Q (F0 m 20 ls []) := by
  obtain ⟨hx, hb, -, -, -⟩ := id C
  intro d
  induction d with
  | zero =>
    intro j hj0 ls hl K
    refine zz (fun _ _ => lv_iload_n hx hb dX6_init_20 rfl (lv_at hl 1 rfl)) ?_
    refine zz (fun _ _ => lv_bipush (v := 7) hx hb dX6_init_21 (by decide)) ?_
    refine zb (fun _ _ => lv_icmp_ge (tgt := 45) hx hb dX6_init_23 (by decide)) (fun c_1 => ?_) (fun c_1 => ?_)
    · obtain rfl : j = 7 := by omega
      exact K _ hl
    · exact absurd (fl_lt (j := j) (N := 7) rfl (by omega) (by decide) c_1) (by omega)
  | succ d ih =>
    intro j hj0 ls hl K
    refine zz (fun _ _ => lv_iload_n hx hb dX6_init_20 rfl (lv_at hl 1 rfl)) ?_
    refine zz (fun _ _ => lv_bipush (v := 7) hx hb dX6_init_21 (by decide)) ?_
    refine zb (fun _ _ => lv_icmp_ge (tgt := 45) hx hb dX6_init_23 (by decide)) (fun c_1 => ?_) (fun c_1 => ?_)
    · obtain rfl := fl_eq (j := j) (N := 7) rfl (by omega) (by decide) c_1
      exact K _ hl
    · refine zz (fun _ _ => lv_aload_n hx hb dX6_init_26 rfl (lv_at hl 0 rfl)) ?_
      refine z_get (v := .ref sz) C fd_X6_11 ((sM_out _ _ (by omega)).trans ha) rfl dX6_init_27 ?_
      refine zz (fun _ _ => lv_iload_n hx hb dX6_init_30 rfl (lv_at hl 1 rfl)) ?_
      refine z_new C nw_X6_9 (by show 1 + 2 * j + 1 ≤ 15; omega) (by show 7 + 123 * j + 3 ≤ 868; omega) dX6_init_31 ?_
      refine zz (fun _ _ => lv_dup hx hb dX6_init_34 rfl) ?_
      refine zdI (As := []) (rest := [.ref (sz + (1 + 2 * j)), .int (nI j), .ref sz]) C hl.1 lk_X6_21 (ctX2_init (zup_self _ _ _) (by omega)) rfl rfl (Nat.le_of_ble_eq_true rfl) ⟨by decide, by decide, by show 1 + 2 * j + 1 + 1 ≤ 15; omega, by show 7 + 123 * j + 3 + 120 ≤ 868; omega⟩ dX6_init_35 ?_
      refine z_aast C 3 (r := (RX2, TX2, 3)) (ci := 2) rfl ((zup_ne _ _ (by omega)).trans ((zup_ne _ _ (by omega)).trans ((zup_ne _ _ (by omega)).trans (sM_sz _ _ _ _)))) ((zup_ne _ _ (by omega)).trans (zup_self _ _ _)) rfl (in_nI (j := j) rfl (by omega) (by decide)) dX6_init_38 ?_
      refine zeq (M' := sM aC M sz (j + 1)) (by rw [nI_clamp (by omega)]; exact sM_s aC M sz j) ?_
      refine zsz (sz' := sz + (1 + 2 * (j + 1))) (by omega) (zcs (k := 1 + 2 * (j + 1)) (n := 7 + 123 * (j + 1)) (by omega) (by omega) ?_)
      refine zs (fun _ _ => lv_iinc (v := nI j + 1) (lv' := [(1, .int (nI j + 1)), (0, .ref a)]) hx hb dX6_init_39 hl (k := 1) rfl rfl (by decide) rfl) (fun ls hl => ?_)
      refine zz (fun _ _ => lv_goto (tgt := 20) hx hb dX6_init_42 (by decide)) ?_
      have hl := lv_sub hl [1, 0] rfl
      simp only [nI_1] at hl
      exact ih (j + 1) (by omega) _ hl K
set_option maxHeartbeats 4000000 in
set_option maxRecDepth 20000 in
theorem ctX6_init {l : Launch} {D : va_G} {aC : Nat → ClassId} {b0 a sz : Nat} {M : ZM} (ha : M a = some (.inr (6, [.null, .int 0]))) (hsz : a < sz) : Ct l D aC b0 yX6_init cX6_init 2 none 1 15 868 [.ref a] M sz (zdz none (zup (sM aC (zup M a (.inr (6, [.ref sz, .int 0]))) sz 7) (sz + 1) (.inr (2, [.ref (sz + 2), .int 0, .int 1]))) (sz + 15)) := by
  refine Ct.of (by decide) (Nat.le_of_ble_eq_true rfl) ?_
  intro p e s m below meth c ls C hr hlk hnm hl
  have hl : lv_has ls 2 [(0, .ref a)] := hl
  obtain ⟨hx, hb, -, -, -⟩ := id C
  refine zz (fun _ _ => lv_aload_n hx hb dX6_init_0 rfl (lv_at hl 0 rfl)) ?_
  refine z_obj C hl.1 ob_X6_3 (by decide) (Nat.le_of_ble_eq_true rfl) dX6_init_1 ?_
  refine zz (fun _ _ => lv_aload_n hx hb dX6_init_4 rfl (lv_at hl 0 rfl)) ?_
  refine zz (fun _ _ => lv_bipush (v := 7) hx hb dX6_init_5 (by decide)) ?_
  refine z_newq (N' := 7) C 3 rfl (by decide) an_X6_9 (by decide) (by decide) (by decide) (by decide) (by decide) dX6_init_7 ?_
  refine z_put C fp_X6_11 (fun _ => hnm) ((zup_ne _ _ (by omega)).trans ha) (Nat.le_of_ble_eq_true rfl) rfl rfl dX6_init_10 ?_
  refine zz (fun _ _ => lv_aload_n hx hb dX6_init_13 rfl (lv_at hl 0 rfl)) ?_
  refine zz (fun _ _ => lv_iconst (v := 0) hx hb dX6_init_14 (by decide)) ?_
  refine z_put C fp_X6_17 (fun h => by cases h) (zup_self _ _ _) (Nat.le_of_ble_eq_true rfl) rfl rfl dX6_init_15 ?_
  refine zeq (M' := sM aC (zup M a (.inr (6, [.ref sz, .int 0]))) sz 0) (by rw [zup_zup, zup_sw (a := sz) (b := a) (by omega)]; exact sM_0 aC _ sz) ?_
  refine zz (fun _ _ => lv_iconst (v := 0) hx hb dX6_init_18 (by decide)) ?_
  refine zs (fun _ _ => lv_istore_n (lv' := [(1, .int 0), (0, .ref a)]) hx hb dX6_init_19 rfl hl (by decide) rfl) (fun ls hl => ?_)
  refine lpX6_init C (zup_self _ _ _) hsz 7 0 (by decide) _ (lv_sub hl [1, 0] rfl) (fun ls hl => ?_)
  refine zz (fun _ _ => lv_aload_n hx hb dX6_init_45 rfl (lv_at hl 0 rfl)) ?_
  refine z_get (v := .ref sz) C fd_X6_11 ((sM_out _ _ (by omega)).trans (zup_self _ _ _)) rfl dX6_init_46 ?_
  refine zz (fun _ _ => lv_iconst (v := 0) hx hb dX6_init_49 (by decide)) ?_
  refine z_aald C 3 rfl (sM_sz _ _ _ _) (in_nI (j := 0) rfl (by decide) (by decide)) (v := .ref (sz + 1)) rfl dX6_init_50 ?_
  refine zz (fun _ _ => lv_iconst (v := 1) hx hb dX6_init_51 (by decide)) ?_
  refine z_put C fp_X6_22 (fun h => by cases h) (sM_g (i := 0) _ _ (by decide)) (Nat.le_of_ble_eq_true rfl) rfl rfl dX6_init_52 ?_
  exact z_vret C hr hlk dX6_init_55 ⟨rfl, rfl, rfl⟩
end
section
theorem vr_outer (c : ClassId) (N h0 : Nat) : ∀ i : Nat, Jvm.Free.Multi.outerC c N h0 i = arrV c N (fun j => va_rf (if j < i then some (h0 + 1 + j) else none))
  | 0 => by
    show ({ cls := c, slots := Array.replicate N .null, vm := .none } : Cell) = _
    rw [arrV_new]
    refine congrArg (arrV c N) (funext fun j => ?_)
    simp [va_rf]
  | i + 1 => by
    show (Jvm.Free.Multi.outerC c N h0 i).setSlot i (.ref (h0 + 1 + i)) = _
    rw [vr_outer c N h0 i, arrV_store]
    refine congrArg (arrV c N) (funext fun j => ?_)
    by_cases e : j = i
    · subst e
      simp [updV, va_rf]
    · by_cases h : j < i
      · simp [updV, e, h, Nat.lt_succ_of_lt h]
      · simp [updV, e, h, show ¬ j < i + 1 by omega]
section VLATE
variable {p : Program} {l : Launch} {e : Env} {R : Room} {s : State} {m : MethodId} {args : Array Value} {below : List Frame} {meth : Method} {c : Code} {H : Heap} {locs : List Loc} {cells slots : Nat} {Q : State → Prop}
variable {mc ms : Nat} {free : Addr → Prop} {A0 A1 : Nat → Prop} {H0 : Heap} {a : Array Value} {pc : Nat} {ls : Array Slot} {st0 rest : List Value}
/-- caught by the row x of this method's table; the rows ahead don't take it -/
theorem vx_catch {own name : String} {E : String} {ce : Cell} {q : Addr} (hown : s.vm.findClass own = some m.cls) (pre : List ExceptionTableEntry) (x : ExceptionTableEntry) (suf : List ExceptionTableEntry) (hsplit : c.exceptionTable.toList = pre ++ x :: suf)
    (hpass : ∀ z ∈ pre, covers z pc = false ∨ (z.catchType ≠ 0 ∧ ∃ nm : String, (Cond.classLink own z.catchType nm).before args s = true ∧ va_Nc E nm s)) (hx : covers x pc = true) (h0 : x.catchType ≠ 0)
    (hlink : (Cond.classLink own x.catchType name).before args s = true) (hcast : (Cond.castable E name).before args s = true) (hcell : H[q]? = some ce) (hv : ce.vm = .none) (hcl : s.vm.findClass E = some ce.cls)
    (kk : W p l e R s m args below meth c H locs cells slots Q (F0 m x.handlerPc ls [.ref q])) : vx_W p l e R s m args below meth c H locs cells slots Q (F0 m pc ls rest) q := by
  intro T hT X
  have hpl : e.platform.magicAccessors = ({} : Platform).magicAccessors := by rw [X.admits.platform]
  obtain ⟨c3, c4, hc3, hc4, hasg⟩ := Cond.castable_spec hcast
  cases Option.some.inj (hc3.symm.trans hcl)
  obtain ⟨c5, hc5, hcl5⟩ := Cond.classLink_spec hown hlink e.platform hpl
  cases Option.some.inj (hc4.symm.trans hc5)
  obtain ⟨vm', X', st⟩ := X.thenCaughtThrough q (g := F0 m pc ls rest) rfl (Steps.refl _) (by rw [hT]; exact hcell) (by rw [hv]; rfl) (by obtain ⟨k9, h9, -⟩ := Vm.findClass_spec hcl; exact ⟨k9, h9⟩) pre x suf hsplit
    (fun z hz => by
      rcases hpass z hz with h | ⟨hz0, nm, hl1, hn1⟩
      · exact Or.inl h
      · obtain ⟨c6, hc6, hcl6⟩ := Cond.classLink_spec hown hl1 e.platform hpl
        obtain ⟨a8, b8, h1, h2, h3⟩ := hn1
        cases Option.some.inj (h1.symm.trans hcl)
        cases Option.some.inj (h2.symm.trans hc6)
        exact Or.inr ⟨hz0, _, hcl6, h3⟩) hx (Or.inr ⟨h0, c4, hcl5, hasg⟩)
  obtain ⟨t, a1, b1⟩ := kk (T.setVm vm') hT X'
  exact ⟨t, st.trans a1, b1⟩

end VLATE
section ZR8
variable {p : Program} {l : Launch} {e : Env} {R : Room} {s : State} {m : MethodId} {args : Array Value} {below : List Frame} {meth : Method} {c : Code} {D : va_G} {aC : Nat → ClassId} {b0 : Nat} {M : ZM} {sz cells slots : Nat} {Q : State → Prop} {own : String} {cc : ByteArray} {nL pc : Nat} {ls : Array Slot} {rest : List Value} {a : Nat}
/-- the cells of new int[N][K] at sz -/
def gM (aC : Nat → ClassId) (M : ZM) (sz N K : Nat) : ZM := fun q => if q = sz then some (.inl (aC 5, N, .inr (.inr (.inr (.inr (fun i => if i < N then some (sz + 1 + i) else none)))))) else if sz < q ∧ q < sz + (1 + N) then some (.inl (aC 0, K, .inl (fun _ => 0))) else M q
theorem z_mna (C : zC p l s m c D aC b0 own cc nL) {idx N K : Nat} {n k : Int32} (hcl : Cond.classLink own idx "[[I" ∈ zW) (hn : ¬ n < 0) (hk : ¬ k < 0) (hN : n.toNatClampNeg = N) (hK2 : k.toNatClampNeg = K) (hb : N ≤ 100000 ∧ K ≤ 100000) (hcells : cells + (1 + N) ≤ R.cells) (hslots : slots + (N + N * K) ≤ R.slots) (hdg : decode cc pc = .ok (.multianewarray idx 2, 4))
    (kk : Z p l e R s m args below meth c D b0 (gM aC M sz N K) (sz + (1 + N)) (cells + 1 + N) (slots + N + N * K) Q (F0 m (pc + 4) ls (.ref sz :: rest))) : Z p l e R s m args below meth c D b0 M sz cells slots Q (F0 m pc ls (.int k :: .int n :: rest)) := by
  intro H locs h1 h2 h3
  have hlow := C.low h3
  obtain ⟨hx, hb1, -, hown, -, hK, hg, -⟩ := C
  subst hN
  subst hK2
  intro T hT Xs
  obtain ⟨vm₁, cA, comp, -, fA, fC, hO, -, X', step⟩ := Xs.multianewarray2F (ty := .int) hx hown (zg_w hg hcl) (hg.2.2.2.2.2) (zg_w hg aw_int) (g := F0 m pc ls (.int k :: .int n :: rest)) rfl (by rw [hb1]; exact hdg) rfl hn hk (by omega) (by show _ * 4 ≤ _; omega) (by omega) rfl rfl hcells hslots
  have e5 : cA = aC 5 := Option.some.inj (fA.symm.trans (hK.2 5 _ rfl).2)
  have e0 : comp = aC 0 := Option.some.inj (fC.symm.trans (hK.2 0 _ rfl).2)
  subst e5; subst e0
  generalize hF : Jvm.Free.Multi.fill (T.setVm vm₁) (aC 5) (aC 0) n.toNatClampNeg k.toNatClampNeg (defaultValue .int) n.toNatClampNeg = F at X' step
  have hTh : (T.setVm vm₁).heap = H := hT
  obtain ⟨f1, f2, -, -⟩ := Jvm.Free.Multi.fill_facts (T.setVm vm₁) (aC 5) (aC 0) n.toNatClampNeg k.toNatClampNeg (defaultValue .int) n.toNatClampNeg
  rw [hF, hTh] at f1 f2
  have hold : ∀ x : Nat, x < H.size → F.heap[x]? = H[x]? := fun x hx => by
    have := Jvm.Free.Multi.fill_old (T.setVm vm₁) (aC 5) (aC 0) n.toNatClampNeg k.toNatClampNeg (defaultValue .int) (a := x) (by rw [hTh]; exact hx) n.toNatClampNeg
    rw [hF, hTh] at this
    exact this
  have hrow : ∀ j : Nat, j < n.toNatClampNeg → F.heap[H.size + 1 + j]? = some (vp_cell (aC 0) (k.toNatClampNeg, .inl (fun _ => 0))) := fun j hj => by
    have := Jvm.Free.Multi.fill_inner (T.setVm vm₁) (aC 5) (aC 0) n.toNatClampNeg k.toNatClampNeg (defaultValue .int) n.toNatClampNeg j hj
    rw [hF, hTh] at this
    rw [this, vp_cell_i]
    show some ({ cls := aC 0, slots := Array.replicate _ (.int 0), vm := .none } : Cell) = _
    rw [arrV_new]
  rw [vr_outer] at f2
  subst h2
  have hM : zM D b0 (gM aC M H.size n.toNatClampNeg k.toNatClampNeg) F.heap := by
    intro q f hq
    simp only [gM] at hq
    by_cases c1 : q = H.size
    · subst c1
      rw [if_pos rfl] at hq
      cases hq
      refine ⟨hlow, ?_⟩
      show F.heap[H.size]? = some (vp_cell _ _)
      rw [vp_cell_q]
      exact f2
    · rw [if_neg c1] at hq
      by_cases c2 : H.size < q ∧ q < H.size + (1 + n.toNatClampNeg)
      · rw [if_pos c2] at hq
        cases hq
        obtain ⟨j, rfl⟩ : ∃ j, q = H.size + 1 + j := ⟨q - (H.size + 1), by omega⟩
        exact ⟨Nat.le_trans hlow (by omega), hrow j (by omega)⟩
      · rw [if_neg c2] at hq
        exact ⟨(h1 q f hq).1, (h1 q f hq).2.kept (hold q (h1.lt hq))⟩
  obtain ⟨t, a1, b1⟩ := kk F.heap locs hM (by rw [f1]; omega) ⟨by rw [f1]; exact Nat.le_trans h3.1 (by omega), fun q q1 q2 => (hold q (Nat.lt_of_lt_of_le q1 h3.1)).trans (h3.2.1 q q1 q2), h3.2.2⟩ F rfl X'
  refine ⟨t, step t ?_, b1⟩
  rw [hT]
  exact a1
end ZR8
end
section
/-- j objects of w cells each from base on, told by the array at ar -/
def oM (M : ZM) (ar : Nat) (ae : Nat → va_E) (base w : Nat) (cell : Nat → Nat → va_E) (j : Nat) : ZM := fun q => if q = ar then some (ae j) else if base ≤ q ∧ q < base + w * j then some (cell ((q - base) / w) ((q - base) % w)) else M q
theorem oM_ar (M : ZM) (ar : Nat) (ae : Nat → va_E) (base w : Nat) (cell : Nat → Nat → va_E) (j : Nat) : oM M ar ae base w cell j ar = some (ae j) := by simp [oM]
theorem oM_out (M : ZM) {ar : Nat} {ae : Nat → va_E} {base w : Nat} {cell : Nat → Nat → va_E} {j q : Nat} (h1 : q ≠ ar) (h : q < base ∨ base + w * j ≤ q) : oM M ar ae base w cell j q = M q := by
  simp only [oM]
  rw [if_neg h1, if_neg (by omega)]
theorem oM_0 (M : ZM) (ar : Nat) (ae : Nat → va_E) (base w : Nat) (cell : Nat → Nat → va_E) : zup M ar (ae 0) = oM M ar ae base w cell 0 := by
  funext q
  by_cases h : q = ar
  · subst h; rw [zup_self, oM_ar]
  · rw [zup_ne _ _ h, oM_out _ h (by omega)]
theorem oM_in (M : ZM) {ar : Nat} {ae : Nat → va_E} {base w : Nat} {cell : Nat → Nat → va_E} {j i t : Nat} (har : ar < base) (hw : t < w) (hi : i < j) : oM M ar ae base w cell j (base + w * i + t) = some (cell i t) := by
  simp only [oM]
  have h1 : w * i + w ≤ w * j := by rw [← Nat.mul_succ]; exact Nat.mul_le_mul_left w hi
  rw [if_neg (by omega), if_pos ⟨by omega, by omega⟩, show base + w * i + t - base = w * i + t by omega, Nat.mul_add_div (by omega), Nat.div_eq_of_lt hw, Nat.mul_add_mod, Nat.mod_eq_of_lt hw, Nat.add_zero]
theorem oM_s3 {M : ZM} {ar : Nat} {ae : Nat → va_E} {base : Nat} {cell : Nat → Nat → va_E} {j : Nat} (har : ar < base) : zup (zup (zup (zup (oM M ar ae base 3 cell j) (base + 3 * j) (cell j 0)) (base + 3 * j + 1) (cell j 1)) (base + 3 * j + 2) (cell j 2)) ar (ae (j + 1)) = oM M ar ae base 3 cell (j + 1) := by
  funext q
  by_cases h : q = ar
  · subst h; rw [zup_self, oM_ar]
  · rw [zup_ne _ _ h]
    by_cases h2 : q = base + 3 * j + 2
    · subst h2
      rw [zup_self]
      exact (oM_in M (j := j + 1) (i := j) (t := 2) har (by decide) (by omega)).symm
    · rw [zup_ne _ _ h2]
      by_cases h1 : q = base + 3 * j + 1
      · subst h1
        rw [zup_self]
        exact (oM_in M (j := j + 1) (i := j) (t := 1) har (by decide) (by omega)).symm
      · rw [zup_ne _ _ h1]
        by_cases h0 : q = base + 3 * j
        · subst h0
          rw [zup_self]
          exact (oM_in M (j := j + 1) (i := j) (t := 0) har (by decide) (by omega)).symm
        · rw [zup_ne _ _ h0]
          simp only [oM]
          rw [if_neg h, if_neg h]
          by_cases h9 : base ≤ q ∧ q < base + 3 * j
          · rw [if_pos h9, if_pos (show base ≤ q ∧ q < base + 3 * (j + 1) from ⟨h9.1, by omega⟩)]
          · rw [if_neg h9, if_neg (by omega)]
theorem oM_s6 {M : ZM} {ar : Nat} {ae : Nat → va_E} {base : Nat} {cell : Nat → Nat → va_E} {j : Nat} (har : ar < base) : zup (zup (zup (zup (zup (zup (zup (oM M ar ae base 6 cell j) (base + 6 * j) (cell j 0)) (base + 6 * j + 1) (cell j 1)) (base + 6 * j + 2) (cell j 2)) (base + 6 * j + 3) (cell j 3)) (base + 6 * j + 4) (cell j 4)) (base + 6 * j + 5) (cell j 5)) ar (ae (j + 1)) = oM M ar ae base 6 cell (j + 1) := by
  funext q
  by_cases h : q = ar
  · subst h; rw [zup_self, oM_ar]
  · rw [zup_ne _ _ h]
    by_cases h5 : q = base + 6 * j + 5
    · subst h5
      rw [zup_self]
      exact (oM_in M (j := j + 1) (i := j) (t := 5) har (by decide) (by omega)).symm
    · rw [zup_ne _ _ h5]
      by_cases h4 : q = base + 6 * j + 4
      · subst h4
        rw [zup_self]
        exact (oM_in M (j := j + 1) (i := j) (t := 4) har (by decide) (by omega)).symm
      · rw [zup_ne _ _ h4]
        by_cases h3 : q = base + 6 * j + 3
        · subst h3
          rw [zup_self]
          exact (oM_in M (j := j + 1) (i := j) (t := 3) har (by decide) (by omega)).symm
        · rw [zup_ne _ _ h3]
          by_cases h2 : q = base + 6 * j + 2
          · subst h2
            rw [zup_self]
            exact (oM_in M (j := j + 1) (i := j) (t := 2) har (by decide) (by omega)).symm
          · rw [zup_ne _ _ h2]
            by_cases h1 : q = base + 6 * j + 1
            · subst h1
              rw [zup_self]
              exact (oM_in M (j := j + 1) (i := j) (t := 1) har (by decide) (by omega)).symm
            · rw [zup_ne _ _ h1]
              by_cases h0 : q = base + 6 * j
              · subst h0
                rw [zup_self]
                exact (oM_in M (j := j + 1) (i := j) (t := 0) har (by decide) (by omega)).symm
              · rw [zup_ne _ _ h0]
                simp only [oM]
                rw [if_neg h, if_neg h]
                by_cases h9 : base ≤ q ∧ q < base + 6 * j
                · rw [if_pos h9, if_pos (show base ≤ q ∧ q < base + 6 * (j + 1) from ⟨h9.1, by omega⟩)]
                · rw [if_neg h9, if_neg (by omega)]
theorem refs_up (f : Nat → Nat) (j : Nat) : va_up (fun i => if i < j then some (f i) else none) j (some (f j)) = fun i => if i < j + 1 then some (f i) else none := by
  funext i
  by_cases h1 : i = j
  · subst h1; simp [va_up]
  · by_cases h2 : i < j
    · simp [va_up, h1, h2, Nat.lt_succ_of_lt h2]
    · simp [va_up, h1, h2, show ¬ i < j + 1 by omega]
theorem mna_cl : Cond.classLink RX4 9 "[[I" ∈ zW := by decide +kernel
theorem gM_out (aC : Nat → ClassId) (M : ZM) {sz N K q : Nat} (h : q < sz ∨ sz + (1 + N) ≤ q) : gM aC M sz N K q = M q := by
  simp only [gM]
  rw [if_neg (by omega), if_neg (by omega)]
set_option maxHeartbeats 4000000 in
set_option maxRecDepth 20000 in
theorem ctX4_init {l : Launch} {D : va_G} {aC : Nat → ClassId} {b0 a sz : Nat} {M : ZM} (ha : M a = some (.inr (4, [.null, .null, .int 0, .int 0]))) (hsz : a < sz) : Ct l D aC b0 yX4_init cX4_init 1 none 0 7 425 [.ref a] M sz (zdz none (zup (zup (gM aC M sz 5 4) a (.inr (4, [.ref sz, .ref (sz + 6), .int 0, .int 0]))) (sz + 6) (.inl (aC 0, 400, .inl (fun _ => 0)))) (sz + 7)) := by
  refine Ct.of (by decide) (Nat.le_of_ble_eq_true rfl) ?_
  intro p e s m below meth c ls C hr hlk hnm hl
  have hl : lv_has ls 1 [(0, .ref a)] := hl
  obtain ⟨hx, hb, -, -, -⟩ := id C
  refine zz (fun _ _ => lv_aload_n hx hb dX4_init_0 rfl (lv_at hl 0 rfl)) ?_
  refine z_obj C hl.1 ob_X4_3 (by decide) (Nat.le_of_ble_eq_true rfl) dX4_init_1 ?_
  refine zz (fun _ _ => lv_aload_n hx hb dX4_init_4 rfl (lv_at hl 0 rfl)) ?_
  refine zz (fun _ _ => lv_iconst (v := 5) hx hb dX4_init_5 (by decide)) ?_
  refine zz (fun _ _ => lv_iconst (v := 4) hx hb dX4_init_6 (by decide)) ?_
  refine z_mna (N := 5) (K := 4) C mna_cl (by decide) (by decide) (by decide) (by decide) (by decide) (by decide) (by decide) dX4_init_7 ?_
  refine z_put C fp_X4_11 (fun _ => hnm) ((gM_out _ _ (by omega)).trans ha) (Nat.le_of_ble_eq_true rfl) rfl rfl dX4_init_11 ?_
  refine zz (fun _ _ => lv_aload_n hx hb dX4_init_14 rfl (lv_at hl 0 rfl)) ?_
  refine zz (fun _ _ => lv_sipush (v := 400) hx hb dX4_init_15 (by decide)) ?_
  refine z_newi (N' := 400) C (by decide) (by decide) (by decide) (by decide) (by decide) dX4_init_18 ?_
  refine z_put C fp_X4_16 (fun _ => hnm) ((zup_ne _ _ (by omega)).trans (zup_self _ _ _)) (Nat.le_of_ble_eq_true rfl) rfl rfl dX4_init_20 ?_
  refine zeq (M' := zup (zup (gM aC M sz 5 4) a (.inr (4, [.ref sz, .ref (sz + 6), .int 0, .int 0]))) (sz + 6) (.inl (aC 0, 400, .inl (fun _ => 0)))) (by rw [zup_sw (b := a) (by omega), zup_zup]; rfl) ?_
  refine zz (fun _ _ => lv_aload_n hx hb dX4_init_23 rfl (lv_at hl 0 rfl)) ?_
  refine zz (fun _ _ => lv_iconst (v := 0) hx hb dX4_init_24 (by decide)) ?_
  refine z_put C fp_X4_20 (fun h => by cases h) ((zup_ne _ _ (by omega)).trans (zup_self _ _ _)) (Nat.le_of_ble_eq_true rfl) rfl rfl dX4_init_25 ?_
  refine zeq (M' := zup (zup (gM aC M sz 5 4) a (.inr (4, [.ref sz, .ref (sz + 6), .int 0, .int 0]))) (sz + 6) (.inl (aC 0, 400, .inl (fun _ => 0)))) (by rw [zup_sw (b := a) (by omega), zup_zup]; rfl) ?_
  refine zz (fun _ _ => lv_aload_n hx hb dX4_init_28 rfl (lv_at hl 0 rfl)) ?_
  refine zz (fun _ _ => lv_iconst (v := 0) hx hb dX4_init_29 (by decide)) ?_
  refine z_put C fp_X4_24 (fun h => by cases h) ((zup_ne _ _ (by omega)).trans (zup_self _ _ _)) (Nat.le_of_ble_eq_true rfl) rfl rfl dX4_init_30 ?_
  refine zeq (M' := zup (zup (gM aC M sz 5 4) a (.inr (4, [.ref sz, .ref (sz + 6), .int 0, .int 0]))) (sz + 6) (.inl (aC 0, 400, .inl (fun _ => 0)))) (by rw [zup_sw (b := a) (by omega), zup_zup]; rfl) ?_
  exact z_vret C hr hlk dX4_init_33 ⟨rfl, rfl, rfl⟩
end
section
theorem zup_id {M : ZM} {a : Nat} {e : va_E} (h : M a = some e) : zup M a e = M := by
  funext q
  by_cases hq : q = a
  · subst hq; rw [zup_self, h]
  · rw [zup_ne _ _ hq]
def fE (aC : Nat → ClassId) (base j : Nat) : va_E := .inl (aC 2, 4, .inr (.inr (.inr (.inr (fun i => if i < j then some (base + 3 * i) else none)))))
def fC (aC : Nat → ClassId) (base i t : Nat) : va_E := if t = 0 then .inr (1, [.ref (base + 3 * i + 1), .int 0]) else if t = 1 then .inr (3, [.ref (base + 3 * i + 2), .int 10, .int 0]) else .inl (aC 0, 30, .inl (fun _ => 0))
theorem fE_0 (aC : Nat → ClassId) (base : Nat) : (.inl (aC 2, 4, .inr (.inr (.inr (.inr (fun _ => none))))) : va_E) = fE aC base 0 := by simp [fE]
set_option maxHeartbeats 4000000 in
set_option maxRecDepth 20000 in
theorem lpX7_init {p : Program} {l : Launch} {e : Env} {s : State} {m : MethodId} {args : Array Value} {below : List Frame} {meth : Method} {c : Code} {D : va_G} {aC : Nat → ClassId} {b0 a ar base q1 q2 q3 : Nat} {Q : State → Prop} {M : ZM} (C : zC p l s m c D aC b0 RX7 cX7_init 2) (ha : M a = some (.inr (7, [.ref q1, .ref ar, .ref q2, .ref q3, .int 0]))) (h1 : a < ar) (h2 : ar < base) :
    ∀ (d j : Nat), j + d = 4 → ∀ (ls : Array Slot), lv_has ls 2 [(0, .ref a), (1, .int (nI j))] → (∀ (ls : Array Slot), lv_has ls 2 [(0, .ref a), (1, .int (nI 4))] → Z p l e (rz 2 38 1447) s m args below meth c D b0 (oM M ar (fE aC base) base 3 (fC aC base) 4) (base + 3 * 4) (26 + 3 * 4) (1307 + 35 * 4) Q (F0 m 72 ls [])) → Z p l e (rz 2 38 1447) s m args below meth c D b0 (oM M ar (fE aC base) base 3 (fC aC base) j) (base + 3 * j) (26 + 3 * j) (1307 + 35 * j) Q (F0 m 48 ls []) := by
  obtain ⟨hx, hb, -, -, -⟩ := id C
  intro d
  induction d with
  | zero =>
    intro j hj0 ls hl K
    refine zz (fun _ _ => lv_iload_n hx hb dX7_init_48 rfl (lv_at hl 1 rfl)) ?_
    refine zz (fun _ _ => lv_iconst (v := 4) hx hb dX7_init_49 (by decide)) ?_
    refine zb (fun _ _ => lv_icmp_ge (tgt := 72) hx hb dX7_init_50 (by decide)) (fun c_1 => ?_) (fun c_1 => ?_)
    · obtain rfl : j = 4 := by omega
      exact K _ hl
    · exact absurd (fl_lt (j := j) (N := 4) rfl (by omega) (by decide) c_1) (by omega)
  | succ d ih =>
    intro j hj0 ls hl K
    refine zz (fun _ _ => lv_iload_n hx hb dX7_init_48 rfl (lv_at hl 1 rfl)) ?_
    refine zz (fun _ _ => lv_iconst (v := 4) hx hb dX7_init_49 (by decide)) ?_
    refine zb (fun _ _ => lv_icmp_ge (tgt := 72) hx hb dX7_init_50 (by decide)) (fun c_1 => ?_) (fun c_1 => ?_)
    · obtain rfl := fl_eq (j := j) (N := 4) rfl (by omega) (by decide) c_1
      exact K _ hl
    · refine zz (fun _ _ => lv_aload_n hx hb dX7_init_53 rfl (lv_at hl 0 rfl)) ?_
      refine z_get (v := .ref ar) C fd_X7_20 ((oM_out _ (by omega) (by omega)).trans ha) rfl dX7_init_54 ?_
      refine zz (fun _ _ => lv_iload_n hx hb dX7_init_57 rfl (lv_at hl 1 rfl)) ?_
      refine z_new C nw_X7_18 (by show 26 + 3 * j + 1 ≤ 38; omega) (by show 1307 + 35 * j + 2 ≤ 1447; omega) dX7_init_58 ?_
      refine zz (fun _ _ => lv_dup hx hb dX7_init_61 rfl) ?_
      refine zdI (As := []) (rest := [.ref (base + 3 * j), .int (nI j), .ref ar]) C hl.1 lk_X7_39 (ctX1_init (zup_self _ _ _) (by omega)) rfl rfl (Nat.le_of_ble_eq_true rfl) ⟨by decide, by decide, by show 26 + 3 * j + 1 + 2 ≤ 38; omega, by show 1307 + 35 * j + 2 + 33 ≤ 1447; omega⟩ dX7_init_62 ?_
      refine z_aast C 2 (r := (RX1, TX1, 2)) (ci := 1) rfl ((zup_ne _ _ (by omega)).trans ((zup_ne _ _ (by omega)).trans ((zup_ne _ _ (by omega)).trans ((zup_ne _ _ (by omega)).trans (oM_ar _ _ _ _ _ _ _))))) ((zup_ne _ _ (by omega)).trans ((zup_ne _ _ (by omega)).trans (zup_self _ _ _))) rfl (in_nI (j := j) rfl (by omega) (by decide)) dX7_init_65 ?_
      refine zeq (M' := oM M ar (fE aC base) base 3 (fC aC base) (j + 1)) (by rw [nI_clamp (by omega), refs_up (fun i => base + 3 * i) j, zup_zup]; exact oM_s3 (cell := fC aC base) (ae := fE aC base) (j := j) h2) ?_
      refine zsz (sz' := base + 3 * (j + 1)) (by omega) (zcs (k := 26 + 3 * (j + 1)) (n := 1307 + 35 * (j + 1)) (by omega) (by omega) ?_)
      refine zs (fun _ _ => lv_iinc (v := nI j + 1) (lv' := [(1, .int (nI j + 1)), (0, .ref a)]) hx hb dX7_init_66 hl (k := 1) rfl rfl (by decide) rfl) (fun ls hl => ?_)
      refine zz (fun _ _ => lv_goto (tgt := 48) hx hb dX7_init_69 (by decide)) ?_
      have hl := lv_sub hl [1, 0] rfl
      simp only [nI_1] at hl
      exact ih (j + 1) (by omega) _ hl K
/-- a Store at q, made with its cells from q + 1 on -/
def stM (aC : Nat → ClassId) (M : ZM) (q : Nat) : ZM := zup (sM aC (zup (zup M q (.inr (6, [.null, .int 0]))) q (.inr (6, [.ref (q + 1), .int 0]))) (q + 1) 7) (q + 1 + 1) (.inr (2, [.ref (q + 1 + 2), .int 0, .int 1]))
theorem stM_out (aC : Nat → ClassId) (M : ZM) {q z : Nat} (h : z < q ∨ q + 16 ≤ z) : stM aC M q z = M z := by
  unfold stM
  rw [zup_ne _ _ (by omega), sM_out _ _ (by omega), zup_ne _ _ (by omega), zup_ne _ _ (by omega)]
/-- a Search at q -/
def seM (aC : Nat → ClassId) (M : ZM) (q : Nat) : ZM := zup (zup (gM aC (zup M q (.inr (4, [.null, .null, .int 0, .int 0]))) (q + 1) 5 4) q (.inr (4, [.ref (q + 1), .ref (q + 1 + 6), .int 0, .int 0]))) (q + 1 + 6) (.inl (aC 0, 400, .inl (fun _ => 0)))
theorem seM_out (aC : Nat → ClassId) (M : ZM) {q z : Nat} (h : z < q ∨ q + 8 ≤ z) : seM aC M q z = M z := by
  unfold seM
  rw [zup_ne _ _ (by omega), zup_ne _ _ (by omega), gM_out _ _ (by omega), zup_ne _ _ (by omega)]
/-- a Worker at a, its cells from sz on -/
def woM (aC : Nat → ClassId) (M : ZM) (a sz : Nat) : ZM := oM (zup (zup (seM aC (zup (zup (stM aC M sz) a (.inr (7, [.ref sz, .ref (sz + 16), .null, .null, .int 0]))) (sz + 16) (.inl (aC 2, 4, .inr (.inr (.inr (.inr (fun _ => none))))))) (sz + 17)) a (.inr (7, [.ref sz, .ref (sz + 16), .ref (sz + 17), .ref (sz + 25), .int 0]))) (sz + 25) (.inl (aC 0, 4, .inl (fun _ => 0)))) (sz + 16) (fE aC (sz + 26)) (sz + 26) 3 (fC aC (sz + 26)) 4
set_option maxHeartbeats 4000000 in
set_option maxRecDepth 20000 in
theorem ctX7_init {l : Launch} {D : va_G} {aC : Nat → ClassId} {b0 a sz : Nat} {M : ZM} (ha : M a = some (.inr (7, [.null, .null, .null, .null, .int 0]))) (hsz : a < sz) : Ct l D aC b0 yX7_init cX7_init 2 none 2 38 1447 [.ref a] M sz (zdz none (woM aC M a sz) (sz + 38)) := by
  refine Ct.of (by decide) (Nat.le_of_ble_eq_true rfl) ?_
  intro p e s m below meth c ls C hr hlk hnm hl
  have hl : lv_has ls 2 [(0, .ref a)] := hl
  obtain ⟨hx, hb, -, -, -⟩ := id C
  refine zz (fun _ _ => lv_aload_n hx hb dX7_init_0 rfl (lv_at hl 0 rfl)) ?_
  refine z_obj C hl.1 ob_X7_3 (by decide) (Nat.le_of_ble_eq_true rfl) dX7_init_1 ?_
  refine zz (fun _ _ => lv_aload_n hx hb dX7_init_4 rfl (lv_at hl 0 rfl)) ?_
  refine z_new C nw_X7_9 (by decide) (by decide) dX7_init_5 ?_
  refine zz (fun _ _ => lv_dup hx hb dX7_init_8 rfl) ?_
  refine zdI (As := []) (rest := [.ref sz, .ref a]) C hl.1 lk_X7_11 (ctX6_init (zup_self _ _ _) (by omega)) rfl rfl (Nat.le_of_ble_eq_true rfl) ⟨by decide, by decide, by decide, by decide⟩ dX7_init_9 ?_
  refine zeq (M' := stM aC M sz) rfl (zsz (sz' := sz + 16) rfl (zcs (k := 16) (n := 870) rfl rfl ?_))
  refine z_put C fp_X7_12 (fun _ => hnm) ((stM_out _ _ (by omega)).trans ha) (Nat.le_of_ble_eq_true rfl) rfl rfl dX7_init_12 ?_
  refine zz (fun _ _ => lv_aload_n hx hb dX7_init_15 rfl (lv_at hl 0 rfl)) ?_
  refine zz (fun _ _ => lv_iconst (v := 4) hx hb dX7_init_16 (by decide)) ?_
  refine z_newq (N' := 4) C 2 rfl (by decide) an_X7_18 (by decide) (by decide) (by decide) (by decide) (by decide) dX7_init_17 ?_
  refine z_put C fp_X7_20 (fun _ => hnm) ((zup_ne _ _ (by omega)).trans (zup_self _ _ _)) (Nat.le_of_ble_eq_true rfl) rfl rfl dX7_init_20 ?_
  refine zeq (M' := zup (zup (stM aC M sz) a (.inr (7, [.ref sz, .ref (sz + 16), .null, .null, .int 0]))) (sz + 16) (.inl (aC 2, 4, .inr (.inr (.inr (.inr (fun _ => none))))))) (by rw [zup_sw (a := sz + 16) (b := a) (by omega), zup_zup]; rfl) (zsz (sz' := sz + 17) rfl (zcs (k := 17) (n := 874) rfl rfl ?_))
  refine zz (fun _ _ => lv_aload_n hx hb dX7_init_23 rfl (lv_at hl 0 rfl)) ?_
  refine z_new C nw_X7_24 (by decide) (by decide) dX7_init_24 ?_
  refine zz (fun _ _ => lv_dup hx hb dX7_init_27 rfl) ?_
  refine zdI (As := []) (rest := [.ref (sz + 17), .ref a]) C hl.1 lk_X7_26 (ctX4_init (zup_self _ _ _) (by omega)) rfl rfl (Nat.le_of_ble_eq_true rfl) ⟨by decide, by decide, by decide, by decide⟩ dX7_init_28 ?_
  refine zeq (M' := seM aC (zup (zup (stM aC M sz) a (.inr (7, [.ref sz, .ref (sz + 16), .null, .null, .int 0]))) (sz + 16) (.inl (aC 2, 4, .inr (.inr (.inr (.inr (fun _ => none))))))) (sz + 17)) rfl (zsz (sz' := sz + 25) rfl (zcs (k := 25) (n := 1303) rfl rfl ?_))
  refine z_put C fp_X7_27 (fun _ => hnm) ((seM_out _ _ (by omega)).trans ((zup_ne _ _ (by omega)).trans (zup_self _ _ _))) (Nat.le_of_ble_eq_true rfl) rfl rfl dX7_init_31 ?_
  refine zz (fun _ _ => lv_aload_n hx hb dX7_init_34 rfl (lv_at hl 0 rfl)) ?_
  refine zz (fun _ _ => lv_iconst (v := 4) hx hb dX7_init_35 (by decide)) ?_
  refine z_newi (N' := 4) C (by decide) (by decide) (by decide) (by decide) (by decide) dX7_init_36 ?_
  refine z_put C fp_X7_31 (fun _ => hnm) ((zup_ne _ _ (by omega)).trans (zup_self _ _ _)) (Nat.le_of_ble_eq_true rfl) rfl rfl dX7_init_38 ?_
  refine zz (fun _ _ => lv_aload_n hx hb dX7_init_41 rfl (lv_at hl 0 rfl)) ?_
  refine zz (fun _ _ => lv_iconst (v := 0) hx hb dX7_init_42 (by decide)) ?_
  refine z_put C fp_X7_35 (fun h => by cases h) (zup_self _ _ _) (Nat.le_of_ble_eq_true rfl) rfl rfl dX7_init_43 ?_
  refine zeq (M' := oM (zup (zup (seM aC (zup (zup (stM aC M sz) a (.inr (7, [.ref sz, .ref (sz + 16), .null, .null, .int 0]))) (sz + 16) (.inl (aC 2, 4, .inr (.inr (.inr (.inr (fun _ => none))))))) (sz + 17)) a (.inr (7, [.ref sz, .ref (sz + 16), .ref (sz + 17), .ref (sz + 25), .int 0]))) (sz + 25) (.inl (aC 0, 4, .inl (fun _ => 0)))) (sz + 16) (fE aC (sz + 26)) (sz + 26) 3 (fC aC (sz + 26)) 0) ?_ (zsz (sz' := sz + 26 + 3 * 0) rfl (zcs (k := 26 + 3 * 0) (n := 1307 + 35 * 0) rfl rfl ?_))
  · rw [zup_zup, zup_sw (a := sz + 25) (b := a) (by omega), zup_zup, ← oM_0]
    refine Eq.trans ?_ (zup_id (a := sz + 16) (e := fE aC (sz + 26) 0) ?_).symm
    · rfl
    · rw [zup_ne _ _ (by omega), zup_ne _ _ (by omega), seM_out _ _ (by omega), zup_self, fE_0 aC (sz + 26)]
  refine zz (fun _ _ => lv_iconst (v := 0) hx hb dX7_init_46 (by decide)) ?_
  refine zs (fun _ _ => lv_istore_n (lv' := [(1, .int 0), (0, .ref a)]) hx hb dX7_init_47 rfl hl (by decide) rfl) (fun ls hl => ?_)
  refine lpX7_init C ((zup_ne _ _ (by omega)).trans (zup_self _ _ _)) (by omega) (by omega) 4 0 (by decide) _ (lv_sub hl [1, 0] rfl) (fun ls hl => ?_)
  exact z_vret C hr hlk dX7_init_72 ⟨rfl, rfl, rfl⟩
end
section
def tE (aC : Nat → ClassId) (base j : Nat) : va_E := .inl (aC 4, 12, .inr (.inr (.inr (.inr (fun i => if i < j then some (base + 6 * i) else none)))))
def tC (aC : Nat → ClassId) (base i t : Nat) : va_E := if t = 0 then .inr (5, [.ref (base + 6 * i + 1), .ref (base + 6 * i + 3), .ref (base + 6 * i + 4), .int 0, .int 0, .int 0, .int 0, .int (-1)]) else if t = 1 then .inr (3, [.ref (base + 6 * i + 2), .int 6, .int 0]) else if t = 2 then .inl (aC 0, 18, .inl (fun _ => 0)) else if t = 3 then .inl (aC 1, 6, .inl (fun _ => 0)) else if t = 4 then .inr (3, [.ref (base + 6 * i + 5), .int 4, .int 0]) else .inl (aC 0, 12, .inl (fun _ => 0))
theorem tE_0 (aC : Nat → ClassId) (base : Nat) : (.inl (aC 4, 12, .inr (.inr (.inr (.inr (fun _ => none))))) : va_E) = tE aC base 0 := by simp [tE]
/-- a Changes at q -/
def chM (aC : Nat → ClassId) (M : ZM) (q : Nat) : ZM := zup (zup (zup (zup (zup M q (.inr (0, [.null, .null, .null, .int 0]))) q (.inr (0, [.ref (q + 1), .ref (q + 1 + 1), .ref (q + 1 + 2), .int 0]))) (q + 1) (.inl (aC 0, 240, .inl (fun _ => 0)))) (q + 1 + 1) (.inl (aC 0, 240, .inl (fun _ => 0)))) (q + 1 + 2) (.inl (aC 0, 240, .inl (fun _ => 0)))
theorem chM_out (aC : Nat → ClassId) (M : ZM) {q z : Nat} (h : z < q ∨ q + 4 ≤ z) : chM aC M q z = M z := by
  unfold chM
  rw [zup_ne _ _ (by omega), zup_ne _ _ (by omega), zup_ne _ _ (by omega), zup_ne _ _ (by omega), zup_ne _ _ (by omega)]
theorem woM_out (aC : Nat → ClassId) (M : ZM) {a sz z : Nat} (ha : a < sz) (hz : z ≠ a) (h : z < sz ∨ sz + 38 ≤ z) : woM aC M a sz z = M z := by
  unfold woM
  rw [oM_out _ (by omega) (by omega), zup_ne _ _ (by omega), zup_ne _ _ hz, seM_out _ _ (by omega), zup_ne _ _ (by omega), zup_ne _ _ hz, stM_out _ _ (by omega)]
theorem woM_a (aC : Nat → ClassId) (M : ZM) {a sz : Nat} (ha : a < sz) : woM aC M a sz a = some (.inr (7, [.ref sz, .ref (sz + 16), .ref (sz + 17), .ref (sz + 25), .int 0])) := by
  unfold woM
  rw [oM_out _ (by omega) (by omega), zup_ne _ _ (by omega), zup_self]
set_option maxHeartbeats 4000000 in
set_option maxRecDepth 20000 in
theorem lpX8_init {p : Program} {l : Launch} {e : Env} {s : State} {m : MethodId} {args : Array Value} {below : List Frame} {meth : Method} {c : Code} {D : va_G} {aC : Nat → ClassId} {b0 a ar base : Nat} {Q : State → Prop} {M : ZM} {fs : List Value} (C : zC p l s m c D aC b0 RX8 cX8_init 2) (ha : M a = some (.inr (8, .ref ar :: fs))) (h1 : a < ar) (h2 : ar < base) :
    ∀ (d j : Nat), j + d = 12 → ∀ (ls : Array Slot), lv_has ls 2 [(0, .ref a), (1, .int (nI j))] → (∀ (ls : Array Slot), lv_has ls 2 [(0, .ref a), (1, .int (nI 12))] → Z p l e (rz 3 132 3675) s m args below meth c D b0 (oM M ar (tE aC base) base 6 (tC aC base) 12) (base + 6 * 12) (60 + 6 * 12) (3075 + 50 * 12) Q (F0 m 99 ls [])) → Z p l e (rz 3 132 3675) s m args below meth c D b0 (oM M ar (tE aC base) base 6 (tC aC base) j) (base + 6 * j) (60 + 6 * j) (3075 + 50 * j) Q (F0 m 74 ls []) := by
  obtain ⟨hx, hb, -, -, -⟩ := id C
  intro d
  induction d with
  | zero =>
    intro j hj0 ls hl K
    refine zz (fun _ _ => lv_iload_n hx hb dX8_init_74 rfl (lv_at hl 1 rfl)) ?_
    refine zz (fun _ _ => lv_bipush (v := 12) hx hb dX8_init_75 (by decide)) ?_
    refine zb (fun _ _ => lv_icmp_ge (tgt := 99) hx hb dX8_init_77 (by decide)) (fun c_1 => ?_) (fun c_1 => ?_)
    · obtain rfl : j = 12 := by omega
      exact K _ hl
    · exact absurd (fl_lt (j := j) (N := 12) rfl (by omega) (by decide) c_1) (by omega)
  | succ d ih =>
    intro j hj0 ls hl K
    refine zz (fun _ _ => lv_iload_n hx hb dX8_init_74 rfl (lv_at hl 1 rfl)) ?_
    refine zz (fun _ _ => lv_bipush (v := 12) hx hb dX8_init_75 (by decide)) ?_
    refine zb (fun _ _ => lv_icmp_ge (tgt := 99) hx hb dX8_init_77 (by decide)) (fun c_1 => ?_) (fun c_1 => ?_)
    · obtain rfl := fl_eq (j := j) (N := 12) rfl (by omega) (by decide) c_1
      exact K _ hl
    · refine zz (fun _ _ => lv_aload_n hx hb dX8_init_80 rfl (lv_at hl 0 rfl)) ?_
      refine z_get (v := .ref ar) C fd_X8_11 ((oM_out _ (by omega) (by omega)).trans ha) rfl dX8_init_81 ?_
      refine zz (fun _ _ => lv_iload_n hx hb dX8_init_84 rfl (lv_at hl 1 rfl)) ?_
      refine z_new C nw_X8_9 (by show 60 + 6 * j + 1 ≤ 132; omega) (by show 3075 + 50 * j + 8 ≤ 3675; omega) dX8_init_85 ?_
      refine zz (fun _ _ => lv_dup hx hb dX8_init_88 rfl) ?_
      refine zdI (As := []) (rest := [.ref (base + 6 * j), .int (nI j), .ref ar]) C hl.1 lk_X8_50 (ctX5_init (zup_self _ _ _) (by omega)) rfl rfl (Nat.le_of_ble_eq_true rfl) ⟨by decide, by decide, by show 60 + 6 * j + 1 + 5 ≤ 132; omega, by show 3075 + 50 * j + 8 + 42 ≤ 3675; omega⟩ dX8_init_89 ?_
      refine z_aast C 4 (r := (RX5, TX5, 8)) (ci := 5) rfl ((zup_ne _ _ (by omega)).trans ((zup_ne _ _ (by omega)).trans ((zup_ne _ _ (by omega)).trans ((zup_ne _ _ (by omega)).trans ((zup_ne _ _ (by omega)).trans ((zup_ne _ _ (by omega)).trans ((zup_ne _ _ (by omega)).trans (oM_ar _ _ _ _ _ _ _)))))))) ((zup_ne _ _ (by omega)).trans ((zup_ne _ _ (by omega)).trans ((zup_ne _ _ (by omega)).trans ((zup_ne _ _ (by omega)).trans ((zup_ne _ _ (by omega)).trans (zup_self _ _ _)))))) rfl (in_nI (j := j) rfl (by omega) (by decide)) dX8_init_92 ?_
      refine zeq (M' := oM M ar (tE aC base) base 6 (tC aC base) (j + 1)) (by rw [nI_clamp (by omega), refs_up (fun i => base + 6 * i) j, zup_zup]; exact oM_s6 (cell := tC aC base) (ae := tE aC base) (j := j) h2) ?_
      refine zsz (sz' := base + 6 * (j + 1)) (by omega) (zcs (k := 60 + 6 * (j + 1)) (n := 3075 + 50 * (j + 1)) (by omega) (by omega) ?_)
      refine zs (fun _ _ => lv_iinc (v := nI j + 1) (lv' := [(1, .int (nI j + 1)), (0, .ref a)]) hx hb dX8_init_93 hl (k := 1) rfl rfl (by decide) rfl) (fun ls hl => ?_)
      refine zz (fun _ _ => lv_goto (tgt := 74) hx hb dX8_init_96 (by decide)) ?_
      have hl := lv_sub hl [1, 0] rfl
      simp only [nI_1] at hl
      exact ih (j + 1) (by omega) _ hl K
def usP1 (aC : Nat → ClassId) (M : ZM) (a sz : Nat) : ZM := zup (zup M a (.inr (8, [.ref sz, .null, .null, .null, .null, .int 0, .int 0, .int 0]))) sz (.inl (aC 4, 12, .inr (.inr (.inr (.inr (fun _ => none))))))
def usP3 (aC : Nat → ClassId) (M : ZM) (a sz : Nat) : ZM := zup (woM aC (zup (usP1 aC M a sz) (sz + 1) (.inr (7, [.null, .null, .null, .null, .int 0]))) (sz + 1) (sz + 2)) a (.inr (8, [.ref sz, .ref (sz + 1), .ref (sz + 2), .null, .null, .int 0, .int 0, .int 0]))
def usP5 (aC : Nat → ClassId) (M : ZM) (a sz : Nat) : ZM := zup (stM aC (usP3 aC M a sz) (sz + 40)) a (.inr (8, [.ref sz, .ref (sz + 1), .ref (sz + 2), .ref (sz + 40), .null, .int 0, .int 0, .int 0]))
def usP7 (aC : Nat → ClassId) (M : ZM) (a sz : Nat) : ZM := zup (chM aC (usP5 aC M a sz) (sz + 56)) a (.inr (8, [.ref sz, .ref (sz + 1), .ref (sz + 2), .ref (sz + 40), .ref (sz + 56), .int 0, .int (-1), .int 0]))
/-- an UpdateSteps at a, its cells from sz on -/
def usM (aC : Nat → ClassId) (M : ZM) (a sz : Nat) : ZM := oM (usP7 aC M a sz) sz (tE aC (sz + 60)) (sz + 60) 6 (tC aC (sz + 60)) 12
theorem usP7_sz (aC : Nat → ClassId) (M : ZM) {a sz : Nat} (h : a < sz) : usP7 aC M a sz sz = some (tE aC (sz + 60) 0) := by
  unfold usP7
  rw [zup_ne _ _ (by omega), chM_out _ _ (by omega)]
  unfold usP5
  rw [zup_ne _ _ (by omega), stM_out _ _ (by omega)]
  unfold usP3
  rw [zup_ne _ _ (by omega), woM_out _ _ (by omega) (by omega) (by omega), zup_ne _ _ (by omega)]
  unfold usP1
  rw [zup_self, tE_0 aC (sz + 60)]
set_option maxHeartbeats 4000000 in
set_option maxRecDepth 20000 in
theorem ctX8_init {l : Launch} {D : va_G} {aC : Nat → ClassId} {b0 a sz : Nat} {M : ZM} (ha : M a = some (.inr (8, [.null, .null, .null, .null, .null, .int 0, .int 0, .int 0]))) (hsz : a < sz) : Ct l D aC b0 yX8_init cX8_init 2 none 3 132 3675 [.ref a] M sz (zdz none (usM aC M a sz) (sz + 132)) := by
  refine Ct.of (by decide) (Nat.le_of_ble_eq_true rfl) ?_
  intro p e s m below meth c ls C hr hlk hnm hl
  have hl : lv_has ls 2 [(0, .ref a)] := hl
  obtain ⟨hx, hb, -, -, -⟩ := id C
  refine zz (fun _ _ => lv_aload_n hx hb dX8_init_0 rfl (lv_at hl 0 rfl)) ?_
  refine z_obj C hl.1 ob_X8_1 (by decide) (Nat.le_of_ble_eq_true rfl) dX8_init_1 ?_
  refine zz (fun _ _ => lv_aload_n hx hb dX8_init_4 rfl (lv_at hl 0 rfl)) ?_
  refine zz (fun _ _ => lv_bipush (v := 12) hx hb dX8_init_5 (by decide)) ?_
  refine z_newq (N' := 12) C 4 rfl (by decide) an_X8_9 (by decide) (by decide) (by decide) (by decide) (by decide) dX8_init_7 ?_
  refine z_put C fp_X8_11 (fun _ => hnm) ((zup_ne _ _ (by omega)).trans ha) (Nat.le_of_ble_eq_true rfl) rfl rfl dX8_init_10 ?_
  refine zeq (M' := usP1 aC M a sz) (by rw [zup_sw (a := sz) (b := a) (by omega)]; rfl) (zsz (sz' := sz + 1) rfl (zcs (k := 1) (n := 12) rfl rfl ?_))
  refine zz (fun _ _ => lv_aload_n hx hb dX8_init_13 rfl (lv_at hl 0 rfl)) ?_
  refine z_new C nw_X8_15 (by decide) (by decide) dX8_init_14 ?_
  refine zz (fun _ _ => lv_dup hx hb dX8_init_17 rfl) ?_
  refine zdI (As := []) (rest := [.ref (sz + 1), .ref a]) C hl.1 lk_X8_17 (ctX7_init (zup_self _ _ _) (by omega)) rfl rfl (Nat.le_of_ble_eq_true rfl) ⟨by decide, by decide, by decide, by decide⟩ dX8_init_18 ?_
  refine z_put C fp_X8_18 (fun _ => hnm) ((woM_out _ _ (by omega) (by omega) (by omega)).trans ((zup_ne _ _ (by omega)).trans ((zup_ne _ _ (by omega)).trans (zup_self _ _ _)))) (Nat.le_of_ble_eq_true rfl) rfl rfl dX8_init_21 ?_
  refine zz (fun _ _ => lv_aload_n hx hb dX8_init_24 rfl (lv_at hl 0 rfl)) ?_
  refine zz (fun _ _ => lv_aload_n hx hb dX8_init_25 rfl (lv_at hl 0 rfl)) ?_
  refine z_get (v := .ref (sz + 1)) C fd_X8_18 (zup_self _ _ _) rfl dX8_init_26 ?_
  refine z_get (v := .ref (sz + 2)) C fd_X8_22 ((zup_ne _ _ (by omega)).trans (woM_a _ _ (by omega))) rfl dX8_init_29 ?_
  refine z_put C fp_X8_26 (fun _ => hnm) (zup_self _ _ _) (Nat.le_of_ble_eq_true rfl) rfl rfl dX8_init_32 ?_
  refine zeq (M' := usP3 aC M a sz) (by rw [zup_zup]; rfl) (zsz (sz' := sz + 40) rfl (zcs (k := 40) (n := 1464) rfl rfl ?_))
  refine zz (fun _ _ => lv_aload_n hx hb dX8_init_35 rfl (lv_at hl 0 rfl)) ?_
  refine z_new C nw_X8_27 (by decide) (by decide) dX8_init_36 ?_
  refine zz (fun _ _ => lv_dup hx hb dX8_init_39 rfl) ?_
  refine zdI (As := []) (rest := [.ref (sz + 40), .ref a]) C hl.1 lk_X8_29 (ctX6_init (zup_self _ _ _) (by omega)) rfl rfl (Nat.le_of_ble_eq_true rfl) ⟨by decide, by decide, by decide, by decide⟩ dX8_init_40 ?_
  refine zeq (M' := stM aC (usP3 aC M a sz) (sz + 40)) rfl ?_
  refine z_put C fp_X8_30 (fun _ => hnm) ((stM_out _ _ (by omega)).trans (zup_self _ _ _)) (Nat.le_of_ble_eq_true rfl) rfl rfl dX8_init_43 ?_
  refine zeq (M' := usP5 aC M a sz) rfl (zsz (sz' := sz + 56) rfl (zcs (k := 56) (n := 2334) rfl rfl ?_))
  refine zz (fun _ _ => lv_aload_n hx hb dX8_init_46 rfl (lv_at hl 0 rfl)) ?_
  refine z_new C nw_X8_33 (by decide) (by decide) dX8_init_47 ?_
  refine zz (fun _ _ => lv_dup hx hb dX8_init_50 rfl) ?_
  refine zdI (As := []) (rest := [.ref (sz + 56), .ref a]) C hl.1 lk_X8_35 (ctX0_init (zup_self _ _ _) (by omega)) rfl rfl (Nat.le_of_ble_eq_true rfl) ⟨by decide, by decide, by decide, by decide⟩ dX8_init_51 ?_
  refine zeq (M' := chM aC (usP5 aC M a sz) (sz + 56)) rfl ?_
  refine z_put C fp_X8_36 (fun _ => hnm) ((chM_out _ _ (by omega)).trans (zup_self _ _ _)) (Nat.le_of_ble_eq_true rfl) rfl rfl dX8_init_54 ?_
  refine zz (fun _ _ => lv_aload_n hx hb dX8_init_57 rfl (lv_at hl 0 rfl)) ?_
  refine zz (fun _ _ => lv_iconst (v := 0) hx hb dX8_init_58 (by decide)) ?_
  refine z_put C fp_X8_40 (fun h => by cases h) (zup_self _ _ _) (Nat.le_of_ble_eq_true rfl) rfl rfl dX8_init_59 ?_
  refine zz (fun _ _ => lv_aload_n hx hb dX8_init_62 rfl (lv_at hl 0 rfl)) ?_
  refine zz (fun _ _ => lv_iconst (v := (-1)) hx hb dX8_init_63 (by decide)) ?_
  refine z_put C fp_X8_44 (fun h => by cases h) (zup_self _ _ _) (Nat.le_of_ble_eq_true rfl) rfl rfl dX8_init_64 ?_
  refine zz (fun _ _ => lv_aload_n hx hb dX8_init_67 rfl (lv_at hl 0 rfl)) ?_
  refine zz (fun _ _ => lv_iconst (v := 0) hx hb dX8_init_68 (by decide)) ?_
  refine z_put C fp_X8_47 (fun h => by cases h) (zup_self _ _ _) (Nat.le_of_ble_eq_true rfl) rfl rfl dX8_init_69 ?_
  refine zeq (M' := oM (usP7 aC M a sz) sz (tE aC (sz + 60)) (sz + 60) 6 (tC aC (sz + 60)) 0) (by rw [zup_zup, zup_zup, zup_zup, ← oM_0]; exact Eq.trans rfl (zup_id (usP7_sz aC M hsz)).symm) (zsz (sz' := sz + 60 + 6 * 0) rfl (zwid (k := 60 + 6 * 0) (n := 3075 + 50 * 0) (by decide) (by decide) ?_))
  refine zz (fun _ _ => lv_iconst (v := 0) hx hb dX8_init_72 (by decide)) ?_
  refine zs (fun _ _ => lv_istore_n (lv' := [(1, .int 0), (0, .ref a)]) hx hb dX8_init_73 rfl hl (by decide) rfl) (fun ls hl => ?_)
  refine lpX8_init C (zup_self _ _ _) hsz (by omega) 12 0 (by decide) _ (lv_sub hl [1, 0] rfl) (fun ls hl => ?_)
  exact z_vret C hr hlk dX8_init_99 ⟨rfl, rfl, rfl⟩
end
section
/-- the numbers of a new UpdateSteps -/
def iv0 (k f : Nat) : Int32 := if ck k = 14 ∧ f = 1 then nI (tl k / 3) else if ck k = 18 ∧ f = 7 then (-1) else if k = 0 ∧ f = 6 then (-1) else if (k = 5 ∨ k = 43) ∧ f = 2 then 1 else 0
def av0 (_ _ : Nat) : Int32 := 0
theorem zup_self' {M : ZM} {a b : Nat} {e : va_E} (h : b = a) : zup M a e b = some e := by subst h; exact zup_self _ _ _
theorem us_0 (aC : Nat → ClassId) (M : ZM) (x : Nat) : usM aC M x (x + 1) (x + 0) = some (cc aC x iv0 av0 0) := by
  unfold usM
  rw [oM_out _ (by omega) (by omega)]
  unfold usP7
  rw [zup_self' (by omega)]
  first | rfl | (simp [cc, ck, ctab, Nat.add_assoc]; done) | (simp [cc, ck, ctab, iv0, av0, tl, tE, fE, Nat.add_assoc]; done)
theorem us_1 (aC : Nat → ClassId) (M : ZM) (x : Nat) : usM aC M x (x + 1) (x + 1) = some (cc aC x iv0 av0 1) := by
  unfold usM
  rw [oM_ar]
  first | rfl | (simp [cc, ck, ctab, Nat.add_assoc]; done) | (simp [cc, ck, ctab, iv0, av0, tl, tE, fE, Nat.add_assoc]; done)
theorem us_2 (aC : Nat → ClassId) (M : ZM) (x : Nat) : usM aC M x (x + 1) (x + 2) = some (cc aC x iv0 av0 2) := by
  unfold usM
  rw [oM_out _ (by omega) (by omega)]
  unfold usP7
  rw [zup_ne _ _ (by omega)]
  rw [chM_out _ _ (by omega)]
  unfold usP5
  rw [zup_ne _ _ (by omega)]
  rw [stM_out _ _ (by omega)]
  unfold usP3
  rw [zup_ne _ _ (by omega)]
  rw [show x + 2 = x + 1 + 1 by omega, woM_a _ _ (by omega)]
  first | rfl | (simp [cc, ck, ctab, Nat.add_assoc]; done) | (simp [cc, ck, ctab, iv0, av0, tl, tE, fE, Nat.add_assoc]; done)
theorem us_3 (aC : Nat → ClassId) (M : ZM) (x : Nat) : usM aC M x (x + 1) (x + 3) = some (cc aC x iv0 av0 3) := by
  unfold usM
  rw [oM_out _ (by omega) (by omega)]
  unfold usP7
  rw [zup_ne _ _ (by omega)]
  rw [chM_out _ _ (by omega)]
  unfold usP5
  rw [zup_ne _ _ (by omega)]
  rw [stM_out _ _ (by omega)]
  unfold usP3
  rw [zup_ne _ _ (by omega)]
  unfold woM
  rw [oM_out _ (by omega) (by omega), zup_ne _ _ (by omega), zup_ne _ _ (by omega), seM_out _ _ (by omega), zup_ne _ _ (by omega), zup_ne _ _ (by omega)]
  unfold stM
  rw [zup_ne _ _ (by omega), sM_out _ _ (by omega), zup_self]
  first | rfl | (simp [cc, ck, ctab, Nat.add_assoc]; done) | (simp [cc, ck, ctab, iv0, av0, tl, tE, fE, Nat.add_assoc]; done)
theorem us_4 (aC : Nat → ClassId) (M : ZM) (x : Nat) : usM aC M x (x + 1) (x + 4) = some (cc aC x iv0 av0 4) := by
  unfold usM
  rw [oM_out _ (by omega) (by omega)]
  unfold usP7
  rw [zup_ne _ _ (by omega)]
  rw [chM_out _ _ (by omega)]
  unfold usP5
  rw [zup_ne _ _ (by omega)]
  rw [stM_out _ _ (by omega)]
  unfold usP3
  rw [zup_ne _ _ (by omega)]
  unfold woM
  rw [oM_out _ (by omega) (by omega), zup_ne _ _ (by omega), zup_ne _ _ (by omega), seM_out _ _ (by omega), zup_ne _ _ (by omega), zup_ne _ _ (by omega)]
  unfold stM
  rw [zup_ne _ _ (by omega)]
  rw [show x + 4 = x + 1 + 2 + 1 by omega, sM_sz]
  simp [cc, ck, ctab, Nat.add_assoc]
  funext i
  by_cases h : i < 7 <;> simp [h] <;> omega
theorem us_5 (aC : Nat → ClassId) (M : ZM) (x : Nat) : usM aC M x (x + 1) (x + 5) = some (cc aC x iv0 av0 5) := by
  unfold usM
  rw [oM_out _ (by omega) (by omega)]
  unfold usP7
  rw [zup_ne _ _ (by omega)]
  rw [chM_out _ _ (by omega)]
  unfold usP5
  rw [zup_ne _ _ (by omega)]
  rw [stM_out _ _ (by omega)]
  unfold usP3
  rw [zup_ne _ _ (by omega)]
  unfold woM
  rw [oM_out _ (by omega) (by omega), zup_ne _ _ (by omega), zup_ne _ _ (by omega), seM_out _ _ (by omega), zup_ne _ _ (by omega), zup_ne _ _ (by omega)]
  unfold stM
  rw [zup_self' (by omega)]
  first | rfl | (simp [cc, ck, ctab, Nat.add_assoc]; done) | (simp [cc, ck, ctab, iv0, av0, tl, tE, fE, Nat.add_assoc]; done)
theorem us_6 (aC : Nat → ClassId) (M : ZM) (x : Nat) : usM aC M x (x + 1) (x + 6) = some (cc aC x iv0 av0 6) := by
  unfold usM
  rw [oM_out _ (by omega) (by omega)]
  unfold usP7
  rw [zup_ne _ _ (by omega)]
  rw [chM_out _ _ (by omega)]
  unfold usP5
  rw [zup_ne _ _ (by omega)]
  rw [stM_out _ _ (by omega)]
  unfold usP3
  rw [zup_ne _ _ (by omega)]
  unfold woM
  rw [oM_out _ (by omega) (by omega), zup_ne _ _ (by omega), zup_ne _ _ (by omega), seM_out _ _ (by omega), zup_ne _ _ (by omega), zup_ne _ _ (by omega)]
  unfold stM
  rw [zup_ne _ _ (by omega)]
  simp only [sM]
  rw [if_neg (by omega), if_pos (by omega), if_neg (by omega)]
  first | rfl | (simp [cc, ck, ctab, Nat.add_assoc]; done) | (simp [cc, ck, ctab, iv0, av0, tl, tE, fE, Nat.add_assoc]; done)
theorem us_7 (aC : Nat → ClassId) (M : ZM) (x : Nat) : usM aC M x (x + 1) (x + 7) = some (cc aC x iv0 av0 7) := by
  unfold usM
  rw [oM_out _ (by omega) (by omega)]
  unfold usP7
  rw [zup_ne _ _ (by omega)]
  rw [chM_out _ _ (by omega)]
  unfold usP5
  rw [zup_ne _ _ (by omega)]
  rw [stM_out _ _ (by omega)]
  unfold usP3
  rw [zup_ne _ _ (by omega)]
  unfold woM
  rw [oM_out _ (by omega) (by omega), zup_ne _ _ (by omega), zup_ne _ _ (by omega), seM_out _ _ (by omega), zup_ne _ _ (by omega), zup_ne _ _ (by omega)]
  unfold stM
  rw [zup_ne _ _ (by omega)]
  simp only [sM]
  rw [if_neg (by omega), if_pos (by omega), if_pos (by omega)]
  first | rfl | (simp [cc, ck, ctab, Nat.add_assoc]; done) | (simp [cc, ck, ctab, iv0, av0, tl, tE, fE, Nat.add_assoc]; done)
theorem us_8 (aC : Nat → ClassId) (M : ZM) (x : Nat) : usM aC M x (x + 1) (x + 8) = some (cc aC x iv0 av0 8) := by
  unfold usM
  rw [oM_out _ (by omega) (by omega)]
  unfold usP7
  rw [zup_ne _ _ (by omega)]
  rw [chM_out _ _ (by omega)]
  unfold usP5
  rw [zup_ne _ _ (by omega)]
  rw [stM_out _ _ (by omega)]
  unfold usP3
  rw [zup_ne _ _ (by omega)]
  unfold woM
  rw [oM_out _ (by omega) (by omega), zup_ne _ _ (by omega), zup_ne _ _ (by omega), seM_out _ _ (by omega), zup_ne _ _ (by omega), zup_ne _ _ (by omega)]
  unfold stM
  rw [zup_ne _ _ (by omega)]
  simp only [sM]
  rw [if_neg (by omega), if_pos (by omega), if_neg (by omega)]
  first | rfl | (simp [cc, ck, ctab, Nat.add_assoc]; done) | (simp [cc, ck, ctab, iv0, av0, tl, tE, fE, Nat.add_assoc]; done)
theorem us_9 (aC : Nat → ClassId) (M : ZM) (x : Nat) : usM aC M x (x + 1) (x + 9) = some (cc aC x iv0 av0 9) := by
  unfold usM
  rw [oM_out _ (by omega) (by omega)]
  unfold usP7
  rw [zup_ne _ _ (by omega)]
  rw [chM_out _ _ (by omega)]
  unfold usP5
  rw [zup_ne _ _ (by omega)]
  rw [stM_out _ _ (by omega)]
  unfold usP3
  rw [zup_ne _ _ (by omega)]
  unfold woM
  rw [oM_out _ (by omega) (by omega), zup_ne _ _ (by omega), zup_ne _ _ (by omega), seM_out _ _ (by omega), zup_ne _ _ (by omega), zup_ne _ _ (by omega)]
  unfold stM
  rw [zup_ne _ _ (by omega)]
  simp only [sM]
  rw [if_neg (by omega), if_pos (by omega), if_pos (by omega)]
  first | rfl | (simp [cc, ck, ctab, Nat.add_assoc]; done) | (simp [cc, ck, ctab, iv0, av0, tl, tE, fE, Nat.add_assoc]; done)
theorem us_10 (aC : Nat → ClassId) (M : ZM) (x : Nat) : usM aC M x (x + 1) (x + 10) = some (cc aC x iv0 av0 10) := by
  unfold usM
  rw [oM_out _ (by omega) (by omega)]
  unfold usP7
  rw [zup_ne _ _ (by omega)]
  rw [chM_out _ _ (by omega)]
  unfold usP5
  rw [zup_ne _ _ (by omega)]
  rw [stM_out _ _ (by omega)]
  unfold usP3
  rw [zup_ne _ _ (by omega)]
  unfold woM
  rw [oM_out _ (by omega) (by omega), zup_ne _ _ (by omega), zup_ne _ _ (by omega), seM_out _ _ (by omega), zup_ne _ _ (by omega), zup_ne _ _ (by omega)]
  unfold stM
  rw [zup_ne _ _ (by omega)]
  simp only [sM]
  rw [if_neg (by omega), if_pos (by omega), if_neg (by omega)]
  first | rfl | (simp [cc, ck, ctab, Nat.add_assoc]; done) | (simp [cc, ck, ctab, iv0, av0, tl, tE, fE, Nat.add_assoc]; done)
theorem us_11 (aC : Nat → ClassId) (M : ZM) (x : Nat) : usM aC M x (x + 1) (x + 11) = some (cc aC x iv0 av0 11) := by
  unfold usM
  rw [oM_out _ (by omega) (by omega)]
  unfold usP7
  rw [zup_ne _ _ (by omega)]
  rw [chM_out _ _ (by omega)]
  unfold usP5
  rw [zup_ne _ _ (by omega)]
  rw [stM_out _ _ (by omega)]
  unfold usP3
  rw [zup_ne _ _ (by omega)]
  unfold woM
  rw [oM_out _ (by omega) (by omega), zup_ne _ _ (by omega), zup_ne _ _ (by omega), seM_out _ _ (by omega), zup_ne _ _ (by omega), zup_ne _ _ (by omega)]
  unfold stM
  rw [zup_ne _ _ (by omega)]
  simp only [sM]
  rw [if_neg (by omega), if_pos (by omega), if_pos (by omega)]
  first | rfl | (simp [cc, ck, ctab, Nat.add_assoc]; done) | (simp [cc, ck, ctab, iv0, av0, tl, tE, fE, Nat.add_assoc]; done)
theorem us_12 (aC : Nat → ClassId) (M : ZM) (x : Nat) : usM aC M x (x + 1) (x + 12) = some (cc aC x iv0 av0 12) := by
  unfold usM
  rw [oM_out _ (by omega) (by omega)]
  unfold usP7
  rw [zup_ne _ _ (by omega)]
  rw [chM_out _ _ (by omega)]
  unfold usP5
  rw [zup_ne _ _ (by omega)]
  rw [stM_out _ _ (by omega)]
  unfold usP3
  rw [zup_ne _ _ (by omega)]
  unfold woM
  rw [oM_out _ (by omega) (by omega), zup_ne _ _ (by omega), zup_ne _ _ (by omega), seM_out _ _ (by omega), zup_ne _ _ (by omega), zup_ne _ _ (by omega)]
  unfold stM
  rw [zup_ne _ _ (by omega)]
  simp only [sM]
  rw [if_neg (by omega), if_pos (by omega), if_neg (by omega)]
  first | rfl | (simp [cc, ck, ctab, Nat.add_assoc]; done) | (simp [cc, ck, ctab, iv0, av0, tl, tE, fE, Nat.add_assoc]; done)
theorem us_13 (aC : Nat → ClassId) (M : ZM) (x : Nat) : usM aC M x (x + 1) (x + 13) = some (cc aC x iv0 av0 13) := by
  unfold usM
  rw [oM_out _ (by omega) (by omega)]
  unfold usP7
  rw [zup_ne _ _ (by omega)]
  rw [chM_out _ _ (by omega)]
  unfold usP5
  rw [zup_ne _ _ (by omega)]
  rw [stM_out _ _ (by omega)]
  unfold usP3
  rw [zup_ne _ _ (by omega)]
  unfold woM
  rw [oM_out _ (by omega) (by omega), zup_ne _ _ (by omega), zup_ne _ _ (by omega), seM_out _ _ (by omega), zup_ne _ _ (by omega), zup_ne _ _ (by omega)]
  unfold stM
  rw [zup_ne _ _ (by omega)]
  simp only [sM]
  rw [if_neg (by omega), if_pos (by omega), if_pos (by omega)]
  first | rfl | (simp [cc, ck, ctab, Nat.add_assoc]; done) | (simp [cc, ck, ctab, iv0, av0, tl, tE, fE, Nat.add_assoc]; done)
theorem us_14 (aC : Nat → ClassId) (M : ZM) (x : Nat) : usM aC M x (x + 1) (x + 14) = some (cc aC x iv0 av0 14) := by
  unfold usM
  rw [oM_out _ (by omega) (by omega)]
  unfold usP7
  rw [zup_ne _ _ (by omega)]
  rw [chM_out _ _ (by omega)]
  unfold usP5
  rw [zup_ne _ _ (by omega)]
  rw [stM_out _ _ (by omega)]
  unfold usP3
  rw [zup_ne _ _ (by omega)]
  unfold woM
  rw [oM_out _ (by omega) (by omega), zup_ne _ _ (by omega), zup_ne _ _ (by omega), seM_out _ _ (by omega), zup_ne _ _ (by omega), zup_ne _ _ (by omega)]
  unfold stM
  rw [zup_ne _ _ (by omega)]
  simp only [sM]
  rw [if_neg (by omega), if_pos (by omega), if_neg (by omega)]
  first | rfl | (simp [cc, ck, ctab, Nat.add_assoc]; done) | (simp [cc, ck, ctab, iv0, av0, tl, tE, fE, Nat.add_assoc]; done)
theorem us_15 (aC : Nat → ClassId) (M : ZM) (x : Nat) : usM aC M x (x + 1) (x + 15) = some (cc aC x iv0 av0 15) := by
  unfold usM
  rw [oM_out _ (by omega) (by omega)]
  unfold usP7
  rw [zup_ne _ _ (by omega)]
  rw [chM_out _ _ (by omega)]
  unfold usP5
  rw [zup_ne _ _ (by omega)]
  rw [stM_out _ _ (by omega)]
  unfold usP3
  rw [zup_ne _ _ (by omega)]
  unfold woM
  rw [oM_out _ (by omega) (by omega), zup_ne _ _ (by omega), zup_ne _ _ (by omega), seM_out _ _ (by omega), zup_ne _ _ (by omega), zup_ne _ _ (by omega)]
  unfold stM
  rw [zup_ne _ _ (by omega)]
  simp only [sM]
  rw [if_neg (by omega), if_pos (by omega), if_pos (by omega)]
  first | rfl | (simp [cc, ck, ctab, Nat.add_assoc]; done) | (simp [cc, ck, ctab, iv0, av0, tl, tE, fE, Nat.add_assoc]; done)
theorem us_16 (aC : Nat → ClassId) (M : ZM) (x : Nat) : usM aC M x (x + 1) (x + 16) = some (cc aC x iv0 av0 16) := by
  unfold usM
  rw [oM_out _ (by omega) (by omega)]
  unfold usP7
  rw [zup_ne _ _ (by omega)]
  rw [chM_out _ _ (by omega)]
  unfold usP5
  rw [zup_ne _ _ (by omega)]
  rw [stM_out _ _ (by omega)]
  unfold usP3
  rw [zup_ne _ _ (by omega)]
  unfold woM
  rw [oM_out _ (by omega) (by omega), zup_ne _ _ (by omega), zup_ne _ _ (by omega), seM_out _ _ (by omega), zup_ne _ _ (by omega), zup_ne _ _ (by omega)]
  unfold stM
  rw [zup_ne _ _ (by omega)]
  simp only [sM]
  rw [if_neg (by omega), if_pos (by omega), if_neg (by omega)]
  first | rfl | (simp [cc, ck, ctab, Nat.add_assoc]; done) | (simp [cc, ck, ctab, iv0, av0, tl, tE, fE, Nat.add_assoc]; done)
theorem us_17 (aC : Nat → ClassId) (M : ZM) (x : Nat) : usM aC M x (x + 1) (x + 17) = some (cc aC x iv0 av0 17) := by
  unfold usM
  rw [oM_out _ (by omega) (by omega)]
  unfold usP7
  rw [zup_ne _ _ (by omega)]
  rw [chM_out _ _ (by omega)]
  unfold usP5
  rw [zup_ne _ _ (by omega)]
  rw [stM_out _ _ (by omega)]
  unfold usP3
  rw [zup_ne _ _ (by omega)]
  unfold woM
  rw [oM_out _ (by omega) (by omega), zup_ne _ _ (by omega), zup_ne _ _ (by omega), seM_out _ _ (by omega), zup_ne _ _ (by omega), zup_ne _ _ (by omega)]
  unfold stM
  rw [zup_ne _ _ (by omega)]
  simp only [sM]
  rw [if_neg (by omega), if_pos (by omega), if_pos (by omega)]
  first | rfl | (simp [cc, ck, ctab, Nat.add_assoc]; done) | (simp [cc, ck, ctab, iv0, av0, tl, tE, fE, Nat.add_assoc]; done)
theorem us_18 (aC : Nat → ClassId) (M : ZM) (x : Nat) : usM aC M x (x + 1) (x + 18) = some (cc aC x iv0 av0 18) := by
  unfold usM
  rw [oM_out _ (by omega) (by omega)]
  unfold usP7
  rw [zup_ne _ _ (by omega)]
  rw [chM_out _ _ (by omega)]
  unfold usP5
  rw [zup_ne _ _ (by omega)]
  rw [stM_out _ _ (by omega)]
  unfold usP3
  rw [zup_ne _ _ (by omega)]
  unfold woM
  rw [oM_out _ (by omega) (by omega), zup_ne _ _ (by omega), zup_ne _ _ (by omega), seM_out _ _ (by omega), zup_ne _ _ (by omega), zup_ne _ _ (by omega)]
  unfold stM
  rw [zup_ne _ _ (by omega)]
  simp only [sM]
  rw [if_neg (by omega), if_pos (by omega), if_neg (by omega)]
  first | rfl | (simp [cc, ck, ctab, Nat.add_assoc]; done) | (simp [cc, ck, ctab, iv0, av0, tl, tE, fE, Nat.add_assoc]; done)
theorem us_19 (aC : Nat → ClassId) (M : ZM) (x : Nat) : usM aC M x (x + 1) (x + 19) = some (cc aC x iv0 av0 19) := by
  unfold usM
  rw [oM_out _ (by omega) (by omega)]
  unfold usP7
  rw [zup_ne _ _ (by omega)]
  rw [chM_out _ _ (by omega)]
  unfold usP5
  rw [zup_ne _ _ (by omega)]
  rw [stM_out _ _ (by omega)]
  unfold usP3
  rw [zup_ne _ _ (by omega)]
  unfold woM
  rw [show x + 19 = x + 1 + 2 + 16 by omega, oM_ar]
  first | rfl | (simp [cc, ck, ctab, Nat.add_assoc]; done) | (simp [cc, ck, ctab, iv0, av0, tl, tE, fE, Nat.add_assoc]; done)
theorem us_20 (aC : Nat → ClassId) (M : ZM) (x : Nat) : usM aC M x (x + 1) (x + 20) = some (cc aC x iv0 av0 20) := by
  unfold usM
  rw [oM_out _ (by omega) (by omega)]
  unfold usP7
  rw [zup_ne _ _ (by omega)]
  rw [chM_out _ _ (by omega)]
  unfold usP5
  rw [zup_ne _ _ (by omega)]
  rw [stM_out _ _ (by omega)]
  unfold usP3
  rw [zup_ne _ _ (by omega)]
  unfold woM
  rw [oM_out _ (by omega) (by omega), zup_ne _ _ (by omega), zup_ne _ _ (by omega)]
  unfold seM
  rw [zup_ne _ _ (by omega), zup_self' (by omega)]
  first | rfl | (simp [cc, ck, ctab, Nat.add_assoc]; done) | (simp [cc, ck, ctab, iv0, av0, tl, tE, fE, Nat.add_assoc]; done)
theorem us_21 (aC : Nat → ClassId) (M : ZM) (x : Nat) : usM aC M x (x + 1) (x + 21) = some (cc aC x iv0 av0 21) := by
  unfold usM
  rw [oM_out _ (by omega) (by omega)]
  unfold usP7
  rw [zup_ne _ _ (by omega)]
  rw [chM_out _ _ (by omega)]
  unfold usP5
  rw [zup_ne _ _ (by omega)]
  rw [stM_out _ _ (by omega)]
  unfold usP3
  rw [zup_ne _ _ (by omega)]
  unfold woM
  rw [oM_out _ (by omega) (by omega), zup_ne _ _ (by omega), zup_ne _ _ (by omega)]
  unfold seM
  rw [zup_ne _ _ (by omega), zup_ne _ _ (by omega)]
  simp only [gM]
  rw [if_pos trivial]
  first | rfl | (simp [cc, ck, ctab, Nat.add_assoc]; done) | (simp [cc, ck, ctab, Nat.add_assoc]; funext i; by_cases h : i < 5 <;> simp [h] <;> omega)
theorem us_22 (aC : Nat → ClassId) (M : ZM) (x : Nat) : usM aC M x (x + 1) (x + 22) = some (cc aC x iv0 av0 22) := by
  unfold usM
  rw [oM_out _ (by omega) (by omega)]
  unfold usP7
  rw [zup_ne _ _ (by omega)]
  rw [chM_out _ _ (by omega)]
  unfold usP5
  rw [zup_ne _ _ (by omega)]
  rw [stM_out _ _ (by omega)]
  unfold usP3
  rw [zup_ne _ _ (by omega)]
  unfold woM
  rw [oM_out _ (by omega) (by omega), zup_ne _ _ (by omega), zup_ne _ _ (by omega)]
  unfold seM
  rw [zup_ne _ _ (by omega), zup_ne _ _ (by omega)]
  simp only [gM]
  rw [if_neg (by omega), if_pos (by omega)]
  first | rfl | (simp [cc, ck, ctab, Nat.add_assoc]; done) | (simp [cc, ck, ctab, iv0, av0, tl, tE, fE, Nat.add_assoc]; done)
theorem us_23 (aC : Nat → ClassId) (M : ZM) (x : Nat) : usM aC M x (x + 1) (x + 23) = some (cc aC x iv0 av0 23) := by
  unfold usM
  rw [oM_out _ (by omega) (by omega)]
  unfold usP7
  rw [zup_ne _ _ (by omega)]
  rw [chM_out _ _ (by omega)]
  unfold usP5
  rw [zup_ne _ _ (by omega)]
  rw [stM_out _ _ (by omega)]
  unfold usP3
  rw [zup_ne _ _ (by omega)]
  unfold woM
  rw [oM_out _ (by omega) (by omega), zup_ne _ _ (by omega), zup_ne _ _ (by omega)]
  unfold seM
  rw [zup_ne _ _ (by omega), zup_ne _ _ (by omega)]
  simp only [gM]
  rw [if_neg (by omega), if_pos (by omega)]
  first | rfl | (simp [cc, ck, ctab, Nat.add_assoc]; done) | (simp [cc, ck, ctab, iv0, av0, tl, tE, fE, Nat.add_assoc]; done)
theorem us_24 (aC : Nat → ClassId) (M : ZM) (x : Nat) : usM aC M x (x + 1) (x + 24) = some (cc aC x iv0 av0 24) := by
  unfold usM
  rw [oM_out _ (by omega) (by omega)]
  unfold usP7
  rw [zup_ne _ _ (by omega)]
  rw [chM_out _ _ (by omega)]
  unfold usP5
  rw [zup_ne _ _ (by omega)]
  rw [stM_out _ _ (by omega)]
  unfold usP3
  rw [zup_ne _ _ (by omega)]
  unfold woM
  rw [oM_out _ (by omega) (by omega), zup_ne _ _ (by omega), zup_ne _ _ (by omega)]
  unfold seM
  rw [zup_ne _ _ (by omega), zup_ne _ _ (by omega)]
  simp only [gM]
  rw [if_neg (by omega), if_pos (by omega)]
  first | rfl | (simp [cc, ck, ctab, Nat.add_assoc]; done) | (simp [cc, ck, ctab, iv0, av0, tl, tE, fE, Nat.add_assoc]; done)
theorem us_25 (aC : Nat → ClassId) (M : ZM) (x : Nat) : usM aC M x (x + 1) (x + 25) = some (cc aC x iv0 av0 25) := by
  unfold usM
  rw [oM_out _ (by omega) (by omega)]
  unfold usP7
  rw [zup_ne _ _ (by omega)]
  rw [chM_out _ _ (by omega)]
  unfold usP5
  rw [zup_ne _ _ (by omega)]
  rw [stM_out _ _ (by omega)]
  unfold usP3
  rw [zup_ne _ _ (by omega)]
  unfold woM
  rw [oM_out _ (by omega) (by omega), zup_ne _ _ (by omega), zup_ne _ _ (by omega)]
  unfold seM
  rw [zup_ne _ _ (by omega), zup_ne _ _ (by omega)]
  simp only [gM]
  rw [if_neg (by omega), if_pos (by omega)]
  first | rfl | (simp [cc, ck, ctab, Nat.add_assoc]; done) | (simp [cc, ck, ctab, iv0, av0, tl, tE, fE, Nat.add_assoc]; done)
theorem us_26 (aC : Nat → ClassId) (M : ZM) (x : Nat) : usM aC M x (x + 1) (x + 26) = some (cc aC x iv0 av0 26) := by
  unfold usM
  rw [oM_out _ (by omega) (by omega)]
  unfold usP7
  rw [zup_ne _ _ (by omega)]
  rw [chM_out _ _ (by omega)]
  unfold usP5
  rw [zup_ne _ _ (by omega)]
  rw [stM_out _ _ (by omega)]
  unfold usP3
  rw [zup_ne _ _ (by omega)]
  unfold woM
  rw [oM_out _ (by omega) (by omega), zup_ne _ _ (by omega), zup_ne _ _ (by omega)]
  unfold seM
  rw [zup_ne _ _ (by omega), zup_ne _ _ (by omega)]
  simp only [gM]
  rw [if_neg (by omega), if_pos (by omega)]
  first | rfl | (simp [cc, ck, ctab, Nat.add_assoc]; done) | (simp [cc, ck, ctab, iv0, av0, tl, tE, fE, Nat.add_assoc]; done)
theorem us_27 (aC : Nat → ClassId) (M : ZM) (x : Nat) : usM aC M x (x + 1) (x + 27) = some (cc aC x iv0 av0 27) := by
  unfold usM
  rw [oM_out _ (by omega) (by omega)]
  unfold usP7
  rw [zup_ne _ _ (by omega)]
  rw [chM_out _ _ (by omega)]
  unfold usP5
  rw [zup_ne _ _ (by omega)]
  rw [stM_out _ _ (by omega)]
  unfold usP3
  rw [zup_ne _ _ (by omega)]
  unfold woM
  rw [oM_out _ (by omega) (by omega), zup_ne _ _ (by omega), zup_ne _ _ (by omega)]
  unfold seM
  rw [zup_self' (by omega)]
  first | rfl | (simp [cc, ck, ctab, Nat.add_assoc]; done) | (simp [cc, ck, ctab, iv0, av0, tl, tE, fE, Nat.add_assoc]; done)
theorem us_28 (aC : Nat → ClassId) (M : ZM) (x : Nat) : usM aC M x (x + 1) (x + 28) = some (cc aC x iv0 av0 28) := by
  unfold usM
  rw [oM_out _ (by omega) (by omega)]
  unfold usP7
  rw [zup_ne _ _ (by omega)]
  rw [chM_out _ _ (by omega)]
  unfold usP5
  rw [zup_ne _ _ (by omega)]
  rw [stM_out _ _ (by omega)]
  unfold usP3
  rw [zup_ne _ _ (by omega)]
  unfold woM
  rw [oM_out _ (by omega) (by omega), zup_self' (by omega)]
  first | rfl | (simp [cc, ck, ctab, Nat.add_assoc]; done) | (simp [cc, ck, ctab, iv0, av0, tl, tE, fE, Nat.add_assoc]; done)
theorem us_29 (aC : Nat → ClassId) (M : ZM) (x : Nat) : usM aC M x (x + 1) (x + 29) = some (cc aC x iv0 av0 29) := by
  unfold usM
  rw [oM_out _ (by omega) (by omega)]
  unfold usP7
  rw [zup_ne _ _ (by omega)]
  rw [chM_out _ _ (by omega)]
  unfold usP5
  rw [zup_ne _ _ (by omega)]
  rw [stM_out _ _ (by omega)]
  unfold usP3
  rw [zup_ne _ _ (by omega)]
  unfold woM
  rw [show x + 29 = x + 1 + 2 + 26 + 3 * 0 + 0 by omega, oM_in _ (by omega) (by decide) (by decide)]
  first | rfl | (simp [cc, ck, ctab, Nat.add_assoc]; done) | (simp [cc, ck, ctab, iv0, av0, tl, tE, fE, Nat.add_assoc]; done)
theorem us_30 (aC : Nat → ClassId) (M : ZM) (x : Nat) : usM aC M x (x + 1) (x + 30) = some (cc aC x iv0 av0 30) := by
  unfold usM
  rw [oM_out _ (by omega) (by omega)]
  unfold usP7
  rw [zup_ne _ _ (by omega)]
  rw [chM_out _ _ (by omega)]
  unfold usP5
  rw [zup_ne _ _ (by omega)]
  rw [stM_out _ _ (by omega)]
  unfold usP3
  rw [zup_ne _ _ (by omega)]
  unfold woM
  rw [show x + 30 = x + 1 + 2 + 26 + 3 * 0 + 1 by omega, oM_in _ (by omega) (by decide) (by decide)]
  first | rfl | (simp [cc, ck, ctab, Nat.add_assoc]; done) | (simp [cc, ck, ctab, iv0, av0, tl, tE, fE, Nat.add_assoc]; done)
theorem us_31 (aC : Nat → ClassId) (M : ZM) (x : Nat) : usM aC M x (x + 1) (x + 31) = some (cc aC x iv0 av0 31) := by
  unfold usM
  rw [oM_out _ (by omega) (by omega)]
  unfold usP7
  rw [zup_ne _ _ (by omega)]
  rw [chM_out _ _ (by omega)]
  unfold usP5
  rw [zup_ne _ _ (by omega)]
  rw [stM_out _ _ (by omega)]
  unfold usP3
  rw [zup_ne _ _ (by omega)]
  unfold woM
  rw [show x + 31 = x + 1 + 2 + 26 + 3 * 0 + 2 by omega, oM_in _ (by omega) (by decide) (by decide)]
  first | rfl | (simp [cc, ck, ctab, Nat.add_assoc]; done) | (simp [cc, ck, ctab, iv0, av0, tl, tE, fE, Nat.add_assoc]; done)
theorem us_32 (aC : Nat → ClassId) (M : ZM) (x : Nat) : usM aC M x (x + 1) (x + 32) = some (cc aC x iv0 av0 32) := by
  unfold usM
  rw [oM_out _ (by omega) (by omega)]
  unfold usP7
  rw [zup_ne _ _ (by omega)]
  rw [chM_out _ _ (by omega)]
  unfold usP5
  rw [zup_ne _ _ (by omega)]
  rw [stM_out _ _ (by omega)]
  unfold usP3
  rw [zup_ne _ _ (by omega)]
  unfold woM
  rw [show x + 32 = x + 1 + 2 + 26 + 3 * 1 + 0 by omega, oM_in _ (by omega) (by decide) (by decide)]
  first | rfl | (simp [cc, ck, ctab, Nat.add_assoc]; done) | (simp [cc, ck, ctab, iv0, av0, tl, tE, fE, Nat.add_assoc]; done)
theorem us_33 (aC : Nat → ClassId) (M : ZM) (x : Nat) : usM aC M x (x + 1) (x + 33) = some (cc aC x iv0 av0 33) := by
  unfold usM
  rw [oM_out _ (by omega) (by omega)]
  unfold usP7
  rw [zup_ne _ _ (by omega)]
  rw [chM_out _ _ (by omega)]
  unfold usP5
  rw [zup_ne _ _ (by omega)]
  rw [stM_out _ _ (by omega)]
  unfold usP3
  rw [zup_ne _ _ (by omega)]
  unfold woM
  rw [show x + 33 = x + 1 + 2 + 26 + 3 * 1 + 1 by omega, oM_in _ (by omega) (by decide) (by decide)]
  first | rfl | (simp [cc, ck, ctab, Nat.add_assoc]; done) | (simp [cc, ck, ctab, iv0, av0, tl, tE, fE, Nat.add_assoc]; done)
theorem us_34 (aC : Nat → ClassId) (M : ZM) (x : Nat) : usM aC M x (x + 1) (x + 34) = some (cc aC x iv0 av0 34) := by
  unfold usM
  rw [oM_out _ (by omega) (by omega)]
  unfold usP7
  rw [zup_ne _ _ (by omega)]
  rw [chM_out _ _ (by omega)]
  unfold usP5
  rw [zup_ne _ _ (by omega)]
  rw [stM_out _ _ (by omega)]
  unfold usP3
  rw [zup_ne _ _ (by omega)]
  unfold woM
  rw [show x + 34 = x + 1 + 2 + 26 + 3 * 1 + 2 by omega, oM_in _ (by omega) (by decide) (by decide)]
  first | rfl | (simp [cc, ck, ctab, Nat.add_assoc]; done) | (simp [cc, ck, ctab, iv0, av0, tl, tE, fE, Nat.add_assoc]; done)
theorem us_35 (aC : Nat → ClassId) (M : ZM) (x : Nat) : usM aC M x (x + 1) (x + 35) = some (cc aC x iv0 av0 35) := by
  unfold usM
  rw [oM_out _ (by omega) (by omega)]
  unfold usP7
  rw [zup_ne _ _ (by omega)]
  rw [chM_out _ _ (by omega)]
  unfold usP5
  rw [zup_ne _ _ (by omega)]
  rw [stM_out _ _ (by omega)]
  unfold usP3
  rw [zup_ne _ _ (by omega)]
  unfold woM
  rw [show x + 35 = x + 1 + 2 + 26 + 3 * 2 + 0 by omega, oM_in _ (by omega) (by decide) (by decide)]
  first | rfl | (simp [cc, ck, ctab, Nat.add_assoc]; done) | (simp [cc, ck, ctab, iv0, av0, tl, tE, fE, Nat.add_assoc]; done)
theorem us_36 (aC : Nat → ClassId) (M : ZM) (x : Nat) : usM aC M x (x + 1) (x + 36) = some (cc aC x iv0 av0 36) := by
  unfold usM
  rw [oM_out _ (by omega) (by omega)]
  unfold usP7
  rw [zup_ne _ _ (by omega)]
  rw [chM_out _ _ (by omega)]
  unfold usP5
  rw [zup_ne _ _ (by omega)]
  rw [stM_out _ _ (by omega)]
  unfold usP3
  rw [zup_ne _ _ (by omega)]
  unfold woM
  rw [show x + 36 = x + 1 + 2 + 26 + 3 * 2 + 1 by omega, oM_in _ (by omega) (by decide) (by decide)]
  first | rfl | (simp [cc, ck, ctab, Nat.add_assoc]; done) | (simp [cc, ck, ctab, iv0, av0, tl, tE, fE, Nat.add_assoc]; done)
theorem us_37 (aC : Nat → ClassId) (M : ZM) (x : Nat) : usM aC M x (x + 1) (x + 37) = some (cc aC x iv0 av0 37) := by
  unfold usM
  rw [oM_out _ (by omega) (by omega)]
  unfold usP7
  rw [zup_ne _ _ (by omega)]
  rw [chM_out _ _ (by omega)]
  unfold usP5
  rw [zup_ne _ _ (by omega)]
  rw [stM_out _ _ (by omega)]
  unfold usP3
  rw [zup_ne _ _ (by omega)]
  unfold woM
  rw [show x + 37 = x + 1 + 2 + 26 + 3 * 2 + 2 by omega, oM_in _ (by omega) (by decide) (by decide)]
  first | rfl | (simp [cc, ck, ctab, Nat.add_assoc]; done) | (simp [cc, ck, ctab, iv0, av0, tl, tE, fE, Nat.add_assoc]; done)
theorem us_38 (aC : Nat → ClassId) (M : ZM) (x : Nat) : usM aC M x (x + 1) (x + 38) = some (cc aC x iv0 av0 38) := by
  unfold usM
  rw [oM_out _ (by omega) (by omega)]
  unfold usP7
  rw [zup_ne _ _ (by omega)]
  rw [chM_out _ _ (by omega)]
  unfold usP5
  rw [zup_ne _ _ (by omega)]
  rw [stM_out _ _ (by omega)]
  unfold usP3
  rw [zup_ne _ _ (by omega)]
  unfold woM
  rw [show x + 38 = x + 1 + 2 + 26 + 3 * 3 + 0 by omega, oM_in _ (by omega) (by decide) (by decide)]
  first | rfl | (simp [cc, ck, ctab, Nat.add_assoc]; done) | (simp [cc, ck, ctab, iv0, av0, tl, tE, fE, Nat.add_assoc]; done)
theorem us_39 (aC : Nat → ClassId) (M : ZM) (x : Nat) : usM aC M x (x + 1) (x + 39) = some (cc aC x iv0 av0 39) := by
  unfold usM
  rw [oM_out _ (by omega) (by omega)]
  unfold usP7
  rw [zup_ne _ _ (by omega)]
  rw [chM_out _ _ (by omega)]
  unfold usP5
  rw [zup_ne _ _ (by omega)]
  rw [stM_out _ _ (by omega)]
  unfold usP3
  rw [zup_ne _ _ (by omega)]
  unfold woM
  rw [show x + 39 = x + 1 + 2 + 26 + 3 * 3 + 1 by omega, oM_in _ (by omega) (by decide) (by decide)]
  first | rfl | (simp [cc, ck, ctab, Nat.add_assoc]; done) | (simp [cc, ck, ctab, iv0, av0, tl, tE, fE, Nat.add_assoc]; done)
theorem us_40 (aC : Nat → ClassId) (M : ZM) (x : Nat) : usM aC M x (x + 1) (x + 40) = some (cc aC x iv0 av0 40) := by
  unfold usM
  rw [oM_out _ (by omega) (by omega)]
  unfold usP7
  rw [zup_ne _ _ (by omega)]
  rw [chM_out _ _ (by omega)]
  unfold usP5
  rw [zup_ne _ _ (by omega)]
  rw [stM_out _ _ (by omega)]
  unfold usP3
  rw [zup_ne _ _ (by omega)]
  unfold woM
  rw [show x + 40 = x + 1 + 2 + 26 + 3 * 3 + 2 by omega, oM_in _ (by omega) (by decide) (by decide)]
  first | rfl | (simp [cc, ck, ctab, Nat.add_assoc]; done) | (simp [cc, ck, ctab, iv0, av0, tl, tE, fE, Nat.add_assoc]; done)
theorem us_41 (aC : Nat → ClassId) (M : ZM) (x : Nat) : usM aC M x (x + 1) (x + 41) = some (cc aC x iv0 av0 41) := by
  unfold usM
  rw [oM_out _ (by omega) (by omega)]
  unfold usP7
  rw [zup_ne _ _ (by omega)]
  rw [chM_out _ _ (by omega)]
  unfold usP5
  rw [zup_ne _ _ (by omega)]
  unfold stM
  rw [zup_ne _ _ (by omega), sM_out _ _ (by omega), zup_self]
  first | rfl | (simp [cc, ck, ctab, Nat.add_assoc]; done) | (simp [cc, ck, ctab, iv0, av0, tl, tE, fE, Nat.add_assoc]; done)
theorem us_42 (aC : Nat → ClassId) (M : ZM) (x : Nat) : usM aC M x (x + 1) (x + 42) = some (cc aC x iv0 av0 42) := by
  unfold usM
  rw [oM_out _ (by omega) (by omega)]
  unfold usP7
  rw [zup_ne _ _ (by omega)]
  rw [chM_out _ _ (by omega)]
  unfold usP5
  rw [zup_ne _ _ (by omega)]
  unfold stM
  rw [zup_ne _ _ (by omega)]
  rw [show x + 42 = x + 1 + 40 + 1 by omega, sM_sz]
  simp [cc, ck, ctab, Nat.add_assoc]
  funext i
  by_cases h : i < 7 <;> simp [h] <;> omega
theorem us_43 (aC : Nat → ClassId) (M : ZM) (x : Nat) : usM aC M x (x + 1) (x + 43) = some (cc aC x iv0 av0 43) := by
  unfold usM
  rw [oM_out _ (by omega) (by omega)]
  unfold usP7
  rw [zup_ne _ _ (by omega)]
  rw [chM_out _ _ (by omega)]
  unfold usP5
  rw [zup_ne _ _ (by omega)]
  unfold stM
  rw [zup_self' (by omega)]
  first | rfl | (simp [cc, ck, ctab, Nat.add_assoc]; done) | (simp [cc, ck, ctab, iv0, av0, tl, tE, fE, Nat.add_assoc]; done)
theorem us_44 (aC : Nat → ClassId) (M : ZM) (x : Nat) : usM aC M x (x + 1) (x + 44) = some (cc aC x iv0 av0 44) := by
  unfold usM
  rw [oM_out _ (by omega) (by omega)]
  unfold usP7
  rw [zup_ne _ _ (by omega)]
  rw [chM_out _ _ (by omega)]
  unfold usP5
  rw [zup_ne _ _ (by omega)]
  unfold stM
  rw [zup_ne _ _ (by omega)]
  simp only [sM]
  rw [if_neg (by omega), if_pos (by omega), if_neg (by omega)]
  first | rfl | (simp [cc, ck, ctab, Nat.add_assoc]; done) | (simp [cc, ck, ctab, iv0, av0, tl, tE, fE, Nat.add_assoc]; done)
theorem us_45 (aC : Nat → ClassId) (M : ZM) (x : Nat) : usM aC M x (x + 1) (x + 45) = some (cc aC x iv0 av0 45) := by
  unfold usM
  rw [oM_out _ (by omega) (by omega)]
  unfold usP7
  rw [zup_ne _ _ (by omega)]
  rw [chM_out _ _ (by omega)]
  unfold usP5
  rw [zup_ne _ _ (by omega)]
  unfold stM
  rw [zup_ne _ _ (by omega)]
  simp only [sM]
  rw [if_neg (by omega), if_pos (by omega), if_pos (by omega)]
  first | rfl | (simp [cc, ck, ctab, Nat.add_assoc]; done) | (simp [cc, ck, ctab, iv0, av0, tl, tE, fE, Nat.add_assoc]; done)
theorem us_46 (aC : Nat → ClassId) (M : ZM) (x : Nat) : usM aC M x (x + 1) (x + 46) = some (cc aC x iv0 av0 46) := by
  unfold usM
  rw [oM_out _ (by omega) (by omega)]
  unfold usP7
  rw [zup_ne _ _ (by omega)]
  rw [chM_out _ _ (by omega)]
  unfold usP5
  rw [zup_ne _ _ (by omega)]
  unfold stM
  rw [zup_ne _ _ (by omega)]
  simp only [sM]
  rw [if_neg (by omega), if_pos (by omega), if_neg (by omega)]
  first | rfl | (simp [cc, ck, ctab, Nat.add_assoc]; done) | (simp [cc, ck, ctab, iv0, av0, tl, tE, fE, Nat.add_assoc]; done)
theorem us_47 (aC : Nat → ClassId) (M : ZM) (x : Nat) : usM aC M x (x + 1) (x + 47) = some (cc aC x iv0 av0 47) := by
  unfold usM
  rw [oM_out _ (by omega) (by omega)]
  unfold usP7
  rw [zup_ne _ _ (by omega)]
  rw [chM_out _ _ (by omega)]
  unfold usP5
  rw [zup_ne _ _ (by omega)]
  unfold stM
  rw [zup_ne _ _ (by omega)]
  simp only [sM]
  rw [if_neg (by omega), if_pos (by omega), if_pos (by omega)]
  first | rfl | (simp [cc, ck, ctab, Nat.add_assoc]; done) | (simp [cc, ck, ctab, iv0, av0, tl, tE, fE, Nat.add_assoc]; done)
theorem us_48 (aC : Nat → ClassId) (M : ZM) (x : Nat) : usM aC M x (x + 1) (x + 48) = some (cc aC x iv0 av0 48) := by
  unfold usM
  rw [oM_out _ (by omega) (by omega)]
  unfold usP7
  rw [zup_ne _ _ (by omega)]
  rw [chM_out _ _ (by omega)]
  unfold usP5
  rw [zup_ne _ _ (by omega)]
  unfold stM
  rw [zup_ne _ _ (by omega)]
  simp only [sM]
  rw [if_neg (by omega), if_pos (by omega), if_neg (by omega)]
  first | rfl | (simp [cc, ck, ctab, Nat.add_assoc]; done) | (simp [cc, ck, ctab, iv0, av0, tl, tE, fE, Nat.add_assoc]; done)
theorem us_49 (aC : Nat → ClassId) (M : ZM) (x : Nat) : usM aC M x (x + 1) (x + 49) = some (cc aC x iv0 av0 49) := by
  unfold usM
  rw [oM_out _ (by omega) (by omega)]
  unfold usP7
  rw [zup_ne _ _ (by omega)]
  rw [chM_out _ _ (by omega)]
  unfold usP5
  rw [zup_ne _ _ (by omega)]
  unfold stM
  rw [zup_ne _ _ (by omega)]
  simp only [sM]
  rw [if_neg (by omega), if_pos (by omega), if_pos (by omega)]
  first | rfl | (simp [cc, ck, ctab, Nat.add_assoc]; done) | (simp [cc, ck, ctab, iv0, av0, tl, tE, fE, Nat.add_assoc]; done)
theorem us_50 (aC : Nat → ClassId) (M : ZM) (x : Nat) : usM aC M x (x + 1) (x + 50) = some (cc aC x iv0 av0 50) := by
  unfold usM
  rw [oM_out _ (by omega) (by omega)]
  unfold usP7
  rw [zup_ne _ _ (by omega)]
  rw [chM_out _ _ (by omega)]
  unfold usP5
  rw [zup_ne _ _ (by omega)]
  unfold stM
  rw [zup_ne _ _ (by omega)]
  simp only [sM]
  rw [if_neg (by omega), if_pos (by omega), if_neg (by omega)]
  first | rfl | (simp [cc, ck, ctab, Nat.add_assoc]; done) | (simp [cc, ck, ctab, iv0, av0, tl, tE, fE, Nat.add_assoc]; done)
theorem us_51 (aC : Nat → ClassId) (M : ZM) (x : Nat) : usM aC M x (x + 1) (x + 51) = some (cc aC x iv0 av0 51) := by
  unfold usM
  rw [oM_out _ (by omega) (by omega)]
  unfold usP7
  rw [zup_ne _ _ (by omega)]
  rw [chM_out _ _ (by omega)]
  unfold usP5
  rw [zup_ne _ _ (by omega)]
  unfold stM
  rw [zup_ne _ _ (by omega)]
  simp only [sM]
  rw [if_neg (by omega), if_pos (by omega), if_pos (by omega)]
  first | rfl | (simp [cc, ck, ctab, Nat.add_assoc]; done) | (simp [cc, ck, ctab, iv0, av0, tl, tE, fE, Nat.add_assoc]; done)
theorem us_52 (aC : Nat → ClassId) (M : ZM) (x : Nat) : usM aC M x (x + 1) (x + 52) = some (cc aC x iv0 av0 52) := by
  unfold usM
  rw [oM_out _ (by omega) (by omega)]
  unfold usP7
  rw [zup_ne _ _ (by omega)]
  rw [chM_out _ _ (by omega)]
  unfold usP5
  rw [zup_ne _ _ (by omega)]
  unfold stM
  rw [zup_ne _ _ (by omega)]
  simp only [sM]
  rw [if_neg (by omega), if_pos (by omega), if_neg (by omega)]
  first | rfl | (simp [cc, ck, ctab, Nat.add_assoc]; done) | (simp [cc, ck, ctab, iv0, av0, tl, tE, fE, Nat.add_assoc]; done)
theorem us_53 (aC : Nat → ClassId) (M : ZM) (x : Nat) : usM aC M x (x + 1) (x + 53) = some (cc aC x iv0 av0 53) := by
  unfold usM
  rw [oM_out _ (by omega) (by omega)]
  unfold usP7
  rw [zup_ne _ _ (by omega)]
  rw [chM_out _ _ (by omega)]
  unfold usP5
  rw [zup_ne _ _ (by omega)]
  unfold stM
  rw [zup_ne _ _ (by omega)]
  simp only [sM]
  rw [if_neg (by omega), if_pos (by omega), if_pos (by omega)]
  first | rfl | (simp [cc, ck, ctab, Nat.add_assoc]; done) | (simp [cc, ck, ctab, iv0, av0, tl, tE, fE, Nat.add_assoc]; done)
theorem us_54 (aC : Nat → ClassId) (M : ZM) (x : Nat) : usM aC M x (x + 1) (x + 54) = some (cc aC x iv0 av0 54) := by
  unfold usM
  rw [oM_out _ (by omega) (by omega)]
  unfold usP7
  rw [zup_ne _ _ (by omega)]
  rw [chM_out _ _ (by omega)]
  unfold usP5
  rw [zup_ne _ _ (by omega)]
  unfold stM
  rw [zup_ne _ _ (by omega)]
  simp only [sM]
  rw [if_neg (by omega), if_pos (by omega), if_neg (by omega)]
  first | rfl | (simp [cc, ck, ctab, Nat.add_assoc]; done) | (simp [cc, ck, ctab, iv0, av0, tl, tE, fE, Nat.add_assoc]; done)
theorem us_55 (aC : Nat → ClassId) (M : ZM) (x : Nat) : usM aC M x (x + 1) (x + 55) = some (cc aC x iv0 av0 55) := by
  unfold usM
  rw [oM_out _ (by omega) (by omega)]
  unfold usP7
  rw [zup_ne _ _ (by omega)]
  rw [chM_out _ _ (by omega)]
  unfold usP5
  rw [zup_ne _ _ (by omega)]
  unfold stM
  rw [zup_ne _ _ (by omega)]
  simp only [sM]
  rw [if_neg (by omega), if_pos (by omega), if_pos (by omega)]
  first | rfl | (simp [cc, ck, ctab, Nat.add_assoc]; done) | (simp [cc, ck, ctab, iv0, av0, tl, tE, fE, Nat.add_assoc]; done)
theorem us_56 (aC : Nat → ClassId) (M : ZM) (x : Nat) : usM aC M x (x + 1) (x + 56) = some (cc aC x iv0 av0 56) := by
  unfold usM
  rw [oM_out _ (by omega) (by omega)]
  unfold usP7
  rw [zup_ne _ _ (by omega)]
  rw [chM_out _ _ (by omega)]
  unfold usP5
  rw [zup_ne _ _ (by omega)]
  unfold stM
  rw [zup_ne _ _ (by omega)]
  simp only [sM]
  rw [if_neg (by omega), if_pos (by omega), if_neg (by omega)]
  first | rfl | (simp [cc, ck, ctab, Nat.add_assoc]; done) | (simp [cc, ck, ctab, iv0, av0, tl, tE, fE, Nat.add_assoc]; done)
theorem us_57 (aC : Nat → ClassId) (M : ZM) (x : Nat) : usM aC M x (x + 1) (x + 57) = some (cc aC x iv0 av0 57) := by
  unfold usM
  rw [oM_out _ (by omega) (by omega)]
  unfold usP7
  rw [zup_ne _ _ (by omega)]
  unfold chM
  rw [zup_ne _ _ (by omega), zup_ne _ _ (by omega), zup_ne _ _ (by omega), zup_self' (by omega)]
  first | rfl | (simp [cc, ck, ctab, Nat.add_assoc]; done) | (simp [cc, ck, ctab, iv0, av0, tl, tE, fE, Nat.add_assoc]; done)
theorem us_58 (aC : Nat → ClassId) (M : ZM) (x : Nat) : usM aC M x (x + 1) (x + 58) = some (cc aC x iv0 av0 58) := by
  unfold usM
  rw [oM_out _ (by omega) (by omega)]
  unfold usP7
  rw [zup_ne _ _ (by omega)]
  unfold chM
  rw [zup_ne _ _ (by omega), zup_ne _ _ (by omega), zup_self' (by omega)]
  first | rfl | (simp [cc, ck, ctab, Nat.add_assoc]; done) | (simp [cc, ck, ctab, iv0, av0, tl, tE, fE, Nat.add_assoc]; done)
theorem us_59 (aC : Nat → ClassId) (M : ZM) (x : Nat) : usM aC M x (x + 1) (x + 59) = some (cc aC x iv0 av0 59) := by
  unfold usM
  rw [oM_out _ (by omega) (by omega)]
  unfold usP7
  rw [zup_ne _ _ (by omega)]
  unfold chM
  rw [zup_ne _ _ (by omega), zup_self' (by omega)]
  first | rfl | (simp [cc, ck, ctab, Nat.add_assoc]; done) | (simp [cc, ck, ctab, iv0, av0, tl, tE, fE, Nat.add_assoc]; done)
theorem us_60 (aC : Nat → ClassId) (M : ZM) (x : Nat) : usM aC M x (x + 1) (x + 60) = some (cc aC x iv0 av0 60) := by
  unfold usM
  rw [oM_out _ (by omega) (by omega)]
  unfold usP7
  rw [zup_ne _ _ (by omega)]
  unfold chM
  rw [zup_self' (by omega)]
  first | rfl | (simp [cc, ck, ctab, Nat.add_assoc]; done) | (simp [cc, ck, ctab, iv0, av0, tl, tE, fE, Nat.add_assoc]; done)
theorem us_61 (aC : Nat → ClassId) (M : ZM) (x : Nat) : usM aC M x (x + 1) (x + 61) = some (cc aC x iv0 av0 61) := by
  unfold usM
  rw [show x + 61 = x + 1 + 60 + 6 * 0 + 0 by omega, oM_in _ (by omega) (by decide) (by decide)]
  first | rfl | (simp [cc, ck, ctab, Nat.add_assoc]; done) | (simp [cc, ck, ctab, iv0, av0, tl, tE, fE, Nat.add_assoc]; done)
theorem us_62 (aC : Nat → ClassId) (M : ZM) (x : Nat) : usM aC M x (x + 1) (x + 62) = some (cc aC x iv0 av0 62) := by
  unfold usM
  rw [show x + 62 = x + 1 + 60 + 6 * 0 + 1 by omega, oM_in _ (by omega) (by decide) (by decide)]
  first | rfl | (simp [cc, ck, ctab, Nat.add_assoc]; done) | (simp [cc, ck, ctab, iv0, av0, tl, tE, fE, Nat.add_assoc]; done)
theorem us_63 (aC : Nat → ClassId) (M : ZM) (x : Nat) : usM aC M x (x + 1) (x + 63) = some (cc aC x iv0 av0 63) := by
  unfold usM
  rw [show x + 63 = x + 1 + 60 + 6 * 0 + 2 by omega, oM_in _ (by omega) (by decide) (by decide)]
  first | rfl | (simp [cc, ck, ctab, Nat.add_assoc]; done) | (simp [cc, ck, ctab, iv0, av0, tl, tE, fE, Nat.add_assoc]; done)
theorem us_64 (aC : Nat → ClassId) (M : ZM) (x : Nat) : usM aC M x (x + 1) (x + 64) = some (cc aC x iv0 av0 64) := by
  unfold usM
  rw [show x + 64 = x + 1 + 60 + 6 * 0 + 3 by omega, oM_in _ (by omega) (by decide) (by decide)]
  first | rfl | (simp [cc, ck, ctab, Nat.add_assoc]; done) | (simp [cc, ck, ctab, iv0, av0, tl, tE, fE, Nat.add_assoc]; done)
theorem us_65 (aC : Nat → ClassId) (M : ZM) (x : Nat) : usM aC M x (x + 1) (x + 65) = some (cc aC x iv0 av0 65) := by
  unfold usM
  rw [show x + 65 = x + 1 + 60 + 6 * 0 + 4 by omega, oM_in _ (by omega) (by decide) (by decide)]
  first | rfl | (simp [cc, ck, ctab, Nat.add_assoc]; done) | (simp [cc, ck, ctab, iv0, av0, tl, tE, fE, Nat.add_assoc]; done)
theorem us_66 (aC : Nat → ClassId) (M : ZM) (x : Nat) : usM aC M x (x + 1) (x + 66) = some (cc aC x iv0 av0 66) := by
  unfold usM
  rw [show x + 66 = x + 1 + 60 + 6 * 0 + 5 by omega, oM_in _ (by omega) (by decide) (by decide)]
  first | rfl | (simp [cc, ck, ctab, Nat.add_assoc]; done) | (simp [cc, ck, ctab, iv0, av0, tl, tE, fE, Nat.add_assoc]; done)
theorem us_67 (aC : Nat → ClassId) (M : ZM) (x : Nat) : usM aC M x (x + 1) (x + 67) = some (cc aC x iv0 av0 67) := by
  unfold usM
  rw [show x + 67 = x + 1 + 60 + 6 * 1 + 0 by omega, oM_in _ (by omega) (by decide) (by decide)]
  first | rfl | (simp [cc, ck, ctab, Nat.add_assoc]; done) | (simp [cc, ck, ctab, iv0, av0, tl, tE, fE, Nat.add_assoc]; done)
theorem us_68 (aC : Nat → ClassId) (M : ZM) (x : Nat) : usM aC M x (x + 1) (x + 68) = some (cc aC x iv0 av0 68) := by
  unfold usM
  rw [show x + 68 = x + 1 + 60 + 6 * 1 + 1 by omega, oM_in _ (by omega) (by decide) (by decide)]
  first | rfl | (simp [cc, ck, ctab, Nat.add_assoc]; done) | (simp [cc, ck, ctab, iv0, av0, tl, tE, fE, Nat.add_assoc]; done)
theorem us_69 (aC : Nat → ClassId) (M : ZM) (x : Nat) : usM aC M x (x + 1) (x + 69) = some (cc aC x iv0 av0 69) := by
  unfold usM
  rw [show x + 69 = x + 1 + 60 + 6 * 1 + 2 by omega, oM_in _ (by omega) (by decide) (by decide)]
  first | rfl | (simp [cc, ck, ctab, Nat.add_assoc]; done) | (simp [cc, ck, ctab, iv0, av0, tl, tE, fE, Nat.add_assoc]; done)
theorem us_70 (aC : Nat → ClassId) (M : ZM) (x : Nat) : usM aC M x (x + 1) (x + 70) = some (cc aC x iv0 av0 70) := by
  unfold usM
  rw [show x + 70 = x + 1 + 60 + 6 * 1 + 3 by omega, oM_in _ (by omega) (by decide) (by decide)]
  first | rfl | (simp [cc, ck, ctab, Nat.add_assoc]; done) | (simp [cc, ck, ctab, iv0, av0, tl, tE, fE, Nat.add_assoc]; done)
theorem us_71 (aC : Nat → ClassId) (M : ZM) (x : Nat) : usM aC M x (x + 1) (x + 71) = some (cc aC x iv0 av0 71) := by
  unfold usM
  rw [show x + 71 = x + 1 + 60 + 6 * 1 + 4 by omega, oM_in _ (by omega) (by decide) (by decide)]
  first | rfl | (simp [cc, ck, ctab, Nat.add_assoc]; done) | (simp [cc, ck, ctab, iv0, av0, tl, tE, fE, Nat.add_assoc]; done)
theorem us_72 (aC : Nat → ClassId) (M : ZM) (x : Nat) : usM aC M x (x + 1) (x + 72) = some (cc aC x iv0 av0 72) := by
  unfold usM
  rw [show x + 72 = x + 1 + 60 + 6 * 1 + 5 by omega, oM_in _ (by omega) (by decide) (by decide)]
  first | rfl | (simp [cc, ck, ctab, Nat.add_assoc]; done) | (simp [cc, ck, ctab, iv0, av0, tl, tE, fE, Nat.add_assoc]; done)
theorem us_73 (aC : Nat → ClassId) (M : ZM) (x : Nat) : usM aC M x (x + 1) (x + 73) = some (cc aC x iv0 av0 73) := by
  unfold usM
  rw [show x + 73 = x + 1 + 60 + 6 * 2 + 0 by omega, oM_in _ (by omega) (by decide) (by decide)]
  first | rfl | (simp [cc, ck, ctab, Nat.add_assoc]; done) | (simp [cc, ck, ctab, iv0, av0, tl, tE, fE, Nat.add_assoc]; done)
theorem us_74 (aC : Nat → ClassId) (M : ZM) (x : Nat) : usM aC M x (x + 1) (x + 74) = some (cc aC x iv0 av0 74) := by
  unfold usM
  rw [show x + 74 = x + 1 + 60 + 6 * 2 + 1 by omega, oM_in _ (by omega) (by decide) (by decide)]
  first | rfl | (simp [cc, ck, ctab, Nat.add_assoc]; done) | (simp [cc, ck, ctab, iv0, av0, tl, tE, fE, Nat.add_assoc]; done)
theorem us_75 (aC : Nat → ClassId) (M : ZM) (x : Nat) : usM aC M x (x + 1) (x + 75) = some (cc aC x iv0 av0 75) := by
  unfold usM
  rw [show x + 75 = x + 1 + 60 + 6 * 2 + 2 by omega, oM_in _ (by omega) (by decide) (by decide)]
  first | rfl | (simp [cc, ck, ctab, Nat.add_assoc]; done) | (simp [cc, ck, ctab, iv0, av0, tl, tE, fE, Nat.add_assoc]; done)
theorem us_76 (aC : Nat → ClassId) (M : ZM) (x : Nat) : usM aC M x (x + 1) (x + 76) = some (cc aC x iv0 av0 76) := by
  unfold usM
  rw [show x + 76 = x + 1 + 60 + 6 * 2 + 3 by omega, oM_in _ (by omega) (by decide) (by decide)]
  first | rfl | (simp [cc, ck, ctab, Nat.add_assoc]; done) | (simp [cc, ck, ctab, iv0, av0, tl, tE, fE, Nat.add_assoc]; done)
theorem us_77 (aC : Nat → ClassId) (M : ZM) (x : Nat) : usM aC M x (x + 1) (x + 77) = some (cc aC x iv0 av0 77) := by
  unfold usM
  rw [show x + 77 = x + 1 + 60 + 6 * 2 + 4 by omega, oM_in _ (by omega) (by decide) (by decide)]
  first | rfl | (simp [cc, ck, ctab, Nat.add_assoc]; done) | (simp [cc, ck, ctab, iv0, av0, tl, tE, fE, Nat.add_assoc]; done)
theorem us_78 (aC : Nat → ClassId) (M : ZM) (x : Nat) : usM aC M x (x + 1) (x + 78) = some (cc aC x iv0 av0 78) := by
  unfold usM
  rw [show x + 78 = x + 1 + 60 + 6 * 2 + 5 by omega, oM_in _ (by omega) (by decide) (by decide)]
  first | rfl | (simp [cc, ck, ctab, Nat.add_assoc]; done) | (simp [cc, ck, ctab, iv0, av0, tl, tE, fE, Nat.add_assoc]; done)
theorem us_79 (aC : Nat → ClassId) (M : ZM) (x : Nat) : usM aC M x (x + 1) (x + 79) = some (cc aC x iv0 av0 79) := by
  unfold usM
  rw [show x + 79 = x + 1 + 60 + 6 * 3 + 0 by omega, oM_in _ (by omega) (by decide) (by decide)]
  first | rfl | (simp [cc, ck, ctab, Nat.add_assoc]; done) | (simp [cc, ck, ctab, iv0, av0, tl, tE, fE, Nat.add_assoc]; done)
theorem us_80 (aC : Nat → ClassId) (M : ZM) (x : Nat) : usM aC M x (x + 1) (x + 80) = some (cc aC x iv0 av0 80) := by
  unfold usM
  rw [show x + 80 = x + 1 + 60 + 6 * 3 + 1 by omega, oM_in _ (by omega) (by decide) (by decide)]
  first | rfl | (simp [cc, ck, ctab, Nat.add_assoc]; done) | (simp [cc, ck, ctab, iv0, av0, tl, tE, fE, Nat.add_assoc]; done)
theorem us_81 (aC : Nat → ClassId) (M : ZM) (x : Nat) : usM aC M x (x + 1) (x + 81) = some (cc aC x iv0 av0 81) := by
  unfold usM
  rw [show x + 81 = x + 1 + 60 + 6 * 3 + 2 by omega, oM_in _ (by omega) (by decide) (by decide)]
  first | rfl | (simp [cc, ck, ctab, Nat.add_assoc]; done) | (simp [cc, ck, ctab, iv0, av0, tl, tE, fE, Nat.add_assoc]; done)
theorem us_82 (aC : Nat → ClassId) (M : ZM) (x : Nat) : usM aC M x (x + 1) (x + 82) = some (cc aC x iv0 av0 82) := by
  unfold usM
  rw [show x + 82 = x + 1 + 60 + 6 * 3 + 3 by omega, oM_in _ (by omega) (by decide) (by decide)]
  first | rfl | (simp [cc, ck, ctab, Nat.add_assoc]; done) | (simp [cc, ck, ctab, iv0, av0, tl, tE, fE, Nat.add_assoc]; done)
theorem us_83 (aC : Nat → ClassId) (M : ZM) (x : Nat) : usM aC M x (x + 1) (x + 83) = some (cc aC x iv0 av0 83) := by
  unfold usM
  rw [show x + 83 = x + 1 + 60 + 6 * 3 + 4 by omega, oM_in _ (by omega) (by decide) (by decide)]
  first | rfl | (simp [cc, ck, ctab, Nat.add_assoc]; done) | (simp [cc, ck, ctab, iv0, av0, tl, tE, fE, Nat.add_assoc]; done)
theorem us_84 (aC : Nat → ClassId) (M : ZM) (x : Nat) : usM aC M x (x + 1) (x + 84) = some (cc aC x iv0 av0 84) := by
  unfold usM
  rw [show x + 84 = x + 1 + 60 + 6 * 3 + 5 by omega, oM_in _ (by omega) (by decide) (by decide)]
  first | rfl | (simp [cc, ck, ctab, Nat.add_assoc]; done) | (simp [cc, ck, ctab, iv0, av0, tl, tE, fE, Nat.add_assoc]; done)
theorem us_85 (aC : Nat → ClassId) (M : ZM) (x : Nat) : usM aC M x (x + 1) (x + 85) = some (cc aC x iv0 av0 85) := by
  unfold usM
  rw [show x + 85 = x + 1 + 60 + 6 * 4 + 0 by omega, oM_in _ (by omega) (by decide) (by decide)]
  first | rfl | (simp [cc, ck, ctab, Nat.add_assoc]; done) | (simp [cc, ck, ctab, iv0, av0, tl, tE, fE, Nat.add_assoc]; done)
theorem us_86 (aC : Nat → ClassId) (M : ZM) (x : Nat) : usM aC M x (x + 1) (x + 86) = some (cc aC x iv0 av0 86) := by
  unfold usM
  rw [show x + 86 = x + 1 + 60 + 6 * 4 + 1 by omega, oM_in _ (by omega) (by decide) (by decide)]
  first | rfl | (simp [cc, ck, ctab, Nat.add_assoc]; done) | (simp [cc, ck, ctab, iv0, av0, tl, tE, fE, Nat.add_assoc]; done)
theorem us_87 (aC : Nat → ClassId) (M : ZM) (x : Nat) : usM aC M x (x + 1) (x + 87) = some (cc aC x iv0 av0 87) := by
  unfold usM
  rw [show x + 87 = x + 1 + 60 + 6 * 4 + 2 by omega, oM_in _ (by omega) (by decide) (by decide)]
  first | rfl | (simp [cc, ck, ctab, Nat.add_assoc]; done) | (simp [cc, ck, ctab, iv0, av0, tl, tE, fE, Nat.add_assoc]; done)
theorem us_88 (aC : Nat → ClassId) (M : ZM) (x : Nat) : usM aC M x (x + 1) (x + 88) = some (cc aC x iv0 av0 88) := by
  unfold usM
  rw [show x + 88 = x + 1 + 60 + 6 * 4 + 3 by omega, oM_in _ (by omega) (by decide) (by decide)]
  first | rfl | (simp [cc, ck, ctab, Nat.add_assoc]; done) | (simp [cc, ck, ctab, iv0, av0, tl, tE, fE, Nat.add_assoc]; done)
theorem us_89 (aC : Nat → ClassId) (M : ZM) (x : Nat) : usM aC M x (x + 1) (x + 89) = some (cc aC x iv0 av0 89) := by
  unfold usM
  rw [show x + 89 = x + 1 + 60 + 6 * 4 + 4 by omega, oM_in _ (by omega) (by decide) (by decide)]
  first | rfl | (simp [cc, ck, ctab, Nat.add_assoc]; done) | (simp [cc, ck, ctab, iv0, av0, tl, tE, fE, Nat.add_assoc]; done)
theorem us_90 (aC : Nat → ClassId) (M : ZM) (x : Nat) : usM aC M x (x + 1) (x + 90) = some (cc aC x iv0 av0 90) := by
  unfold usM
  rw [show x + 90 = x + 1 + 60 + 6 * 4 + 5 by omega, oM_in _ (by omega) (by decide) (by decide)]
  first | rfl | (simp [cc, ck, ctab, Nat.add_assoc]; done) | (simp [cc, ck, ctab, iv0, av0, tl, tE, fE, Nat.add_assoc]; done)
theorem us_91 (aC : Nat → ClassId) (M : ZM) (x : Nat) : usM aC M x (x + 1) (x + 91) = some (cc aC x iv0 av0 91) := by
  unfold usM
  rw [show x + 91 = x + 1 + 60 + 6 * 5 + 0 by omega, oM_in _ (by omega) (by decide) (by decide)]
  first | rfl | (simp [cc, ck, ctab, Nat.add_assoc]; done) | (simp [cc, ck, ctab, iv0, av0, tl, tE, fE, Nat.add_assoc]; done)
theorem us_92 (aC : Nat → ClassId) (M : ZM) (x : Nat) : usM aC M x (x + 1) (x + 92) = some (cc aC x iv0 av0 92) := by
  unfold usM
  rw [show x + 92 = x + 1 + 60 + 6 * 5 + 1 by omega, oM_in _ (by omega) (by decide) (by decide)]
  first | rfl | (simp [cc, ck, ctab, Nat.add_assoc]; done) | (simp [cc, ck, ctab, iv0, av0, tl, tE, fE, Nat.add_assoc]; done)
theorem us_93 (aC : Nat → ClassId) (M : ZM) (x : Nat) : usM aC M x (x + 1) (x + 93) = some (cc aC x iv0 av0 93) := by
  unfold usM
  rw [show x + 93 = x + 1 + 60 + 6 * 5 + 2 by omega, oM_in _ (by omega) (by decide) (by decide)]
  first | rfl | (simp [cc, ck, ctab, Nat.add_assoc]; done) | (simp [cc, ck, ctab, iv0, av0, tl, tE, fE, Nat.add_assoc]; done)
theorem us_94 (aC : Nat → ClassId) (M : ZM) (x : Nat) : usM aC M x (x + 1) (x + 94) = some (cc aC x iv0 av0 94) := by
  unfold usM
  rw [show x + 94 = x + 1 + 60 + 6 * 5 + 3 by omega, oM_in _ (by omega) (by decide) (by decide)]
  first | rfl | (simp [cc, ck, ctab, Nat.add_assoc]; done) | (simp [cc, ck, ctab, iv0, av0, tl, tE, fE, Nat.add_assoc]; done)
theorem us_95 (aC : Nat → ClassId) (M : ZM) (x : Nat) : usM aC M x (x + 1) (x + 95) = some (cc aC x iv0 av0 95) := by
  unfold usM
  rw [show x + 95 = x + 1 + 60 + 6 * 5 + 4 by omega, oM_in _ (by omega) (by decide) (by decide)]
  first | rfl | (simp [cc, ck, ctab, Nat.add_assoc]; done) | (simp [cc, ck, ctab, iv0, av0, tl, tE, fE, Nat.add_assoc]; done)
theorem us_96 (aC : Nat → ClassId) (M : ZM) (x : Nat) : usM aC M x (x + 1) (x + 96) = some (cc aC x iv0 av0 96) := by
  unfold usM
  rw [show x + 96 = x + 1 + 60 + 6 * 5 + 5 by omega, oM_in _ (by omega) (by decide) (by decide)]
  first | rfl | (simp [cc, ck, ctab, Nat.add_assoc]; done) | (simp [cc, ck, ctab, iv0, av0, tl, tE, fE, Nat.add_assoc]; done)
theorem us_97 (aC : Nat → ClassId) (M : ZM) (x : Nat) : usM aC M x (x + 1) (x + 97) = some (cc aC x iv0 av0 97) := by
  unfold usM
  rw [show x + 97 = x + 1 + 60 + 6 * 6 + 0 by omega, oM_in _ (by omega) (by decide) (by decide)]
  first | rfl | (simp [cc, ck, ctab, Nat.add_assoc]; done) | (simp [cc, ck, ctab, iv0, av0, tl, tE, fE, Nat.add_assoc]; done)
theorem us_98 (aC : Nat → ClassId) (M : ZM) (x : Nat) : usM aC M x (x + 1) (x + 98) = some (cc aC x iv0 av0 98) := by
  unfold usM
  rw [show x + 98 = x + 1 + 60 + 6 * 6 + 1 by omega, oM_in _ (by omega) (by decide) (by decide)]
  first | rfl | (simp [cc, ck, ctab, Nat.add_assoc]; done) | (simp [cc, ck, ctab, iv0, av0, tl, tE, fE, Nat.add_assoc]; done)
theorem us_99 (aC : Nat → ClassId) (M : ZM) (x : Nat) : usM aC M x (x + 1) (x + 99) = some (cc aC x iv0 av0 99) := by
  unfold usM
  rw [show x + 99 = x + 1 + 60 + 6 * 6 + 2 by omega, oM_in _ (by omega) (by decide) (by decide)]
  first | rfl | (simp [cc, ck, ctab, Nat.add_assoc]; done) | (simp [cc, ck, ctab, iv0, av0, tl, tE, fE, Nat.add_assoc]; done)
theorem us_100 (aC : Nat → ClassId) (M : ZM) (x : Nat) : usM aC M x (x + 1) (x + 100) = some (cc aC x iv0 av0 100) := by
  unfold usM
  rw [show x + 100 = x + 1 + 60 + 6 * 6 + 3 by omega, oM_in _ (by omega) (by decide) (by decide)]
  first | rfl | (simp [cc, ck, ctab, Nat.add_assoc]; done) | (simp [cc, ck, ctab, iv0, av0, tl, tE, fE, Nat.add_assoc]; done)
theorem us_101 (aC : Nat → ClassId) (M : ZM) (x : Nat) : usM aC M x (x + 1) (x + 101) = some (cc aC x iv0 av0 101) := by
  unfold usM
  rw [show x + 101 = x + 1 + 60 + 6 * 6 + 4 by omega, oM_in _ (by omega) (by decide) (by decide)]
  first | rfl | (simp [cc, ck, ctab, Nat.add_assoc]; done) | (simp [cc, ck, ctab, iv0, av0, tl, tE, fE, Nat.add_assoc]; done)
theorem us_102 (aC : Nat → ClassId) (M : ZM) (x : Nat) : usM aC M x (x + 1) (x + 102) = some (cc aC x iv0 av0 102) := by
  unfold usM
  rw [show x + 102 = x + 1 + 60 + 6 * 6 + 5 by omega, oM_in _ (by omega) (by decide) (by decide)]
  first | rfl | (simp [cc, ck, ctab, Nat.add_assoc]; done) | (simp [cc, ck, ctab, iv0, av0, tl, tE, fE, Nat.add_assoc]; done)
theorem us_103 (aC : Nat → ClassId) (M : ZM) (x : Nat) : usM aC M x (x + 1) (x + 103) = some (cc aC x iv0 av0 103) := by
  unfold usM
  rw [show x + 103 = x + 1 + 60 + 6 * 7 + 0 by omega, oM_in _ (by omega) (by decide) (by decide)]
  first | rfl | (simp [cc, ck, ctab, Nat.add_assoc]; done) | (simp [cc, ck, ctab, iv0, av0, tl, tE, fE, Nat.add_assoc]; done)
theorem us_104 (aC : Nat → ClassId) (M : ZM) (x : Nat) : usM aC M x (x + 1) (x + 104) = some (cc aC x iv0 av0 104) := by
  unfold usM
  rw [show x + 104 = x + 1 + 60 + 6 * 7 + 1 by omega, oM_in _ (by omega) (by decide) (by decide)]
  first | rfl | (simp [cc, ck, ctab, Nat.add_assoc]; done) | (simp [cc, ck, ctab, iv0, av0, tl, tE, fE, Nat.add_assoc]; done)
theorem us_105 (aC : Nat → ClassId) (M : ZM) (x : Nat) : usM aC M x (x + 1) (x + 105) = some (cc aC x iv0 av0 105) := by
  unfold usM
  rw [show x + 105 = x + 1 + 60 + 6 * 7 + 2 by omega, oM_in _ (by omega) (by decide) (by decide)]
  first | rfl | (simp [cc, ck, ctab, Nat.add_assoc]; done) | (simp [cc, ck, ctab, iv0, av0, tl, tE, fE, Nat.add_assoc]; done)
theorem us_106 (aC : Nat → ClassId) (M : ZM) (x : Nat) : usM aC M x (x + 1) (x + 106) = some (cc aC x iv0 av0 106) := by
  unfold usM
  rw [show x + 106 = x + 1 + 60 + 6 * 7 + 3 by omega, oM_in _ (by omega) (by decide) (by decide)]
  first | rfl | (simp [cc, ck, ctab, Nat.add_assoc]; done) | (simp [cc, ck, ctab, iv0, av0, tl, tE, fE, Nat.add_assoc]; done)
theorem us_107 (aC : Nat → ClassId) (M : ZM) (x : Nat) : usM aC M x (x + 1) (x + 107) = some (cc aC x iv0 av0 107) := by
  unfold usM
  rw [show x + 107 = x + 1 + 60 + 6 * 7 + 4 by omega, oM_in _ (by omega) (by decide) (by decide)]
  first | rfl | (simp [cc, ck, ctab, Nat.add_assoc]; done) | (simp [cc, ck, ctab, iv0, av0, tl, tE, fE, Nat.add_assoc]; done)
theorem us_108 (aC : Nat → ClassId) (M : ZM) (x : Nat) : usM aC M x (x + 1) (x + 108) = some (cc aC x iv0 av0 108) := by
  unfold usM
  rw [show x + 108 = x + 1 + 60 + 6 * 7 + 5 by omega, oM_in _ (by omega) (by decide) (by decide)]
  first | rfl | (simp [cc, ck, ctab, Nat.add_assoc]; done) | (simp [cc, ck, ctab, iv0, av0, tl, tE, fE, Nat.add_assoc]; done)
theorem us_109 (aC : Nat → ClassId) (M : ZM) (x : Nat) : usM aC M x (x + 1) (x + 109) = some (cc aC x iv0 av0 109) := by
  unfold usM
  rw [show x + 109 = x + 1 + 60 + 6 * 8 + 0 by omega, oM_in _ (by omega) (by decide) (by decide)]
  first | rfl | (simp [cc, ck, ctab, Nat.add_assoc]; done) | (simp [cc, ck, ctab, iv0, av0, tl, tE, fE, Nat.add_assoc]; done)
theorem us_110 (aC : Nat → ClassId) (M : ZM) (x : Nat) : usM aC M x (x + 1) (x + 110) = some (cc aC x iv0 av0 110) := by
  unfold usM
  rw [show x + 110 = x + 1 + 60 + 6 * 8 + 1 by omega, oM_in _ (by omega) (by decide) (by decide)]
  first | rfl | (simp [cc, ck, ctab, Nat.add_assoc]; done) | (simp [cc, ck, ctab, iv0, av0, tl, tE, fE, Nat.add_assoc]; done)
theorem us_111 (aC : Nat → ClassId) (M : ZM) (x : Nat) : usM aC M x (x + 1) (x + 111) = some (cc aC x iv0 av0 111) := by
  unfold usM
  rw [show x + 111 = x + 1 + 60 + 6 * 8 + 2 by omega, oM_in _ (by omega) (by decide) (by decide)]
  first | rfl | (simp [cc, ck, ctab, Nat.add_assoc]; done) | (simp [cc, ck, ctab, iv0, av0, tl, tE, fE, Nat.add_assoc]; done)
theorem us_112 (aC : Nat → ClassId) (M : ZM) (x : Nat) : usM aC M x (x + 1) (x + 112) = some (cc aC x iv0 av0 112) := by
  unfold usM
  rw [show x + 112 = x + 1 + 60 + 6 * 8 + 3 by omega, oM_in _ (by omega) (by decide) (by decide)]
  first | rfl | (simp [cc, ck, ctab, Nat.add_assoc]; done) | (simp [cc, ck, ctab, iv0, av0, tl, tE, fE, Nat.add_assoc]; done)
theorem us_113 (aC : Nat → ClassId) (M : ZM) (x : Nat) : usM aC M x (x + 1) (x + 113) = some (cc aC x iv0 av0 113) := by
  unfold usM
  rw [show x + 113 = x + 1 + 60 + 6 * 8 + 4 by omega, oM_in _ (by omega) (by decide) (by decide)]
  first | rfl | (simp [cc, ck, ctab, Nat.add_assoc]; done) | (simp [cc, ck, ctab, iv0, av0, tl, tE, fE, Nat.add_assoc]; done)
theorem us_114 (aC : Nat → ClassId) (M : ZM) (x : Nat) : usM aC M x (x + 1) (x + 114) = some (cc aC x iv0 av0 114) := by
  unfold usM
  rw [show x + 114 = x + 1 + 60 + 6 * 8 + 5 by omega, oM_in _ (by omega) (by decide) (by decide)]
  first | rfl | (simp [cc, ck, ctab, Nat.add_assoc]; done) | (simp [cc, ck, ctab, iv0, av0, tl, tE, fE, Nat.add_assoc]; done)
theorem us_115 (aC : Nat → ClassId) (M : ZM) (x : Nat) : usM aC M x (x + 1) (x + 115) = some (cc aC x iv0 av0 115) := by
  unfold usM
  rw [show x + 115 = x + 1 + 60 + 6 * 9 + 0 by omega, oM_in _ (by omega) (by decide) (by decide)]
  first | rfl | (simp [cc, ck, ctab, Nat.add_assoc]; done) | (simp [cc, ck, ctab, iv0, av0, tl, tE, fE, Nat.add_assoc]; done)
theorem us_116 (aC : Nat → ClassId) (M : ZM) (x : Nat) : usM aC M x (x + 1) (x + 116) = some (cc aC x iv0 av0 116) := by
  unfold usM
  rw [show x + 116 = x + 1 + 60 + 6 * 9 + 1 by omega, oM_in _ (by omega) (by decide) (by decide)]
  first | rfl | (simp [cc, ck, ctab, Nat.add_assoc]; done) | (simp [cc, ck, ctab, iv0, av0, tl, tE, fE, Nat.add_assoc]; done)
theorem us_117 (aC : Nat → ClassId) (M : ZM) (x : Nat) : usM aC M x (x + 1) (x + 117) = some (cc aC x iv0 av0 117) := by
  unfold usM
  rw [show x + 117 = x + 1 + 60 + 6 * 9 + 2 by omega, oM_in _ (by omega) (by decide) (by decide)]
  first | rfl | (simp [cc, ck, ctab, Nat.add_assoc]; done) | (simp [cc, ck, ctab, iv0, av0, tl, tE, fE, Nat.add_assoc]; done)
theorem us_118 (aC : Nat → ClassId) (M : ZM) (x : Nat) : usM aC M x (x + 1) (x + 118) = some (cc aC x iv0 av0 118) := by
  unfold usM
  rw [show x + 118 = x + 1 + 60 + 6 * 9 + 3 by omega, oM_in _ (by omega) (by decide) (by decide)]
  first | rfl | (simp [cc, ck, ctab, Nat.add_assoc]; done) | (simp [cc, ck, ctab, iv0, av0, tl, tE, fE, Nat.add_assoc]; done)
theorem us_119 (aC : Nat → ClassId) (M : ZM) (x : Nat) : usM aC M x (x + 1) (x + 119) = some (cc aC x iv0 av0 119) := by
  unfold usM
  rw [show x + 119 = x + 1 + 60 + 6 * 9 + 4 by omega, oM_in _ (by omega) (by decide) (by decide)]
  first | rfl | (simp [cc, ck, ctab, Nat.add_assoc]; done) | (simp [cc, ck, ctab, iv0, av0, tl, tE, fE, Nat.add_assoc]; done)
theorem us_120 (aC : Nat → ClassId) (M : ZM) (x : Nat) : usM aC M x (x + 1) (x + 120) = some (cc aC x iv0 av0 120) := by
  unfold usM
  rw [show x + 120 = x + 1 + 60 + 6 * 9 + 5 by omega, oM_in _ (by omega) (by decide) (by decide)]
  first | rfl | (simp [cc, ck, ctab, Nat.add_assoc]; done) | (simp [cc, ck, ctab, iv0, av0, tl, tE, fE, Nat.add_assoc]; done)
theorem us_121 (aC : Nat → ClassId) (M : ZM) (x : Nat) : usM aC M x (x + 1) (x + 121) = some (cc aC x iv0 av0 121) := by
  unfold usM
  rw [show x + 121 = x + 1 + 60 + 6 * 10 + 0 by omega, oM_in _ (by omega) (by decide) (by decide)]
  first | rfl | (simp [cc, ck, ctab, Nat.add_assoc]; done) | (simp [cc, ck, ctab, iv0, av0, tl, tE, fE, Nat.add_assoc]; done)
theorem us_122 (aC : Nat → ClassId) (M : ZM) (x : Nat) : usM aC M x (x + 1) (x + 122) = some (cc aC x iv0 av0 122) := by
  unfold usM
  rw [show x + 122 = x + 1 + 60 + 6 * 10 + 1 by omega, oM_in _ (by omega) (by decide) (by decide)]
  first | rfl | (simp [cc, ck, ctab, Nat.add_assoc]; done) | (simp [cc, ck, ctab, iv0, av0, tl, tE, fE, Nat.add_assoc]; done)
theorem us_123 (aC : Nat → ClassId) (M : ZM) (x : Nat) : usM aC M x (x + 1) (x + 123) = some (cc aC x iv0 av0 123) := by
  unfold usM
  rw [show x + 123 = x + 1 + 60 + 6 * 10 + 2 by omega, oM_in _ (by omega) (by decide) (by decide)]
  first | rfl | (simp [cc, ck, ctab, Nat.add_assoc]; done) | (simp [cc, ck, ctab, iv0, av0, tl, tE, fE, Nat.add_assoc]; done)
theorem us_124 (aC : Nat → ClassId) (M : ZM) (x : Nat) : usM aC M x (x + 1) (x + 124) = some (cc aC x iv0 av0 124) := by
  unfold usM
  rw [show x + 124 = x + 1 + 60 + 6 * 10 + 3 by omega, oM_in _ (by omega) (by decide) (by decide)]
  first | rfl | (simp [cc, ck, ctab, Nat.add_assoc]; done) | (simp [cc, ck, ctab, iv0, av0, tl, tE, fE, Nat.add_assoc]; done)
theorem us_125 (aC : Nat → ClassId) (M : ZM) (x : Nat) : usM aC M x (x + 1) (x + 125) = some (cc aC x iv0 av0 125) := by
  unfold usM
  rw [show x + 125 = x + 1 + 60 + 6 * 10 + 4 by omega, oM_in _ (by omega) (by decide) (by decide)]
  first | rfl | (simp [cc, ck, ctab, Nat.add_assoc]; done) | (simp [cc, ck, ctab, iv0, av0, tl, tE, fE, Nat.add_assoc]; done)
theorem us_126 (aC : Nat → ClassId) (M : ZM) (x : Nat) : usM aC M x (x + 1) (x + 126) = some (cc aC x iv0 av0 126) := by
  unfold usM
  rw [show x + 126 = x + 1 + 60 + 6 * 10 + 5 by omega, oM_in _ (by omega) (by decide) (by decide)]
  first | rfl | (simp [cc, ck, ctab, Nat.add_assoc]; done) | (simp [cc, ck, ctab, iv0, av0, tl, tE, fE, Nat.add_assoc]; done)
theorem us_127 (aC : Nat → ClassId) (M : ZM) (x : Nat) : usM aC M x (x + 1) (x + 127) = some (cc aC x iv0 av0 127) := by
  unfold usM
  rw [show x + 127 = x + 1 + 60 + 6 * 11 + 0 by omega, oM_in _ (by omega) (by decide) (by decide)]
  first | rfl | (simp [cc, ck, ctab, Nat.add_assoc]; done) | (simp [cc, ck, ctab, iv0, av0, tl, tE, fE, Nat.add_assoc]; done)
theorem us_128 (aC : Nat → ClassId) (M : ZM) (x : Nat) : usM aC M x (x + 1) (x + 128) = some (cc aC x iv0 av0 128) := by
  unfold usM
  rw [show x + 128 = x + 1 + 60 + 6 * 11 + 1 by omega, oM_in _ (by omega) (by decide) (by decide)]
  first | rfl | (simp [cc, ck, ctab, Nat.add_assoc]; done) | (simp [cc, ck, ctab, iv0, av0, tl, tE, fE, Nat.add_assoc]; done)
theorem us_129 (aC : Nat → ClassId) (M : ZM) (x : Nat) : usM aC M x (x + 1) (x + 129) = some (cc aC x iv0 av0 129) := by
  unfold usM
  rw [show x + 129 = x + 1 + 60 + 6 * 11 + 2 by omega, oM_in _ (by omega) (by decide) (by decide)]
  first | rfl | (simp [cc, ck, ctab, Nat.add_assoc]; done) | (simp [cc, ck, ctab, iv0, av0, tl, tE, fE, Nat.add_assoc]; done)
theorem us_130 (aC : Nat → ClassId) (M : ZM) (x : Nat) : usM aC M x (x + 1) (x + 130) = some (cc aC x iv0 av0 130) := by
  unfold usM
  rw [show x + 130 = x + 1 + 60 + 6 * 11 + 3 by omega, oM_in _ (by omega) (by decide) (by decide)]
  first | rfl | (simp [cc, ck, ctab, Nat.add_assoc]; done) | (simp [cc, ck, ctab, iv0, av0, tl, tE, fE, Nat.add_assoc]; done)
theorem us_131 (aC : Nat → ClassId) (M : ZM) (x : Nat) : usM aC M x (x + 1) (x + 131) = some (cc aC x iv0 av0 131) := by
  unfold usM
  rw [show x + 131 = x + 1 + 60 + 6 * 11 + 4 by omega, oM_in _ (by omega) (by decide) (by decide)]
  first | rfl | (simp [cc, ck, ctab, Nat.add_assoc]; done) | (simp [cc, ck, ctab, iv0, av0, tl, tE, fE, Nat.add_assoc]; done)
theorem us_132 (aC : Nat → ClassId) (M : ZM) (x : Nat) : usM aC M x (x + 1) (x + 132) = some (cc aC x iv0 av0 132) := by
  unfold usM
  rw [show x + 132 = x + 1 + 60 + 6 * 11 + 5 by omega, oM_in _ (by omega) (by decide) (by decide)]
  first | rfl | (simp [cc, ck, ctab, Nat.add_assoc]; done) | (simp [cc, ck, ctab, iv0, av0, tl, tE, fE, Nat.add_assoc]; done)
theorem us_all (aC : Nat → ClassId) (M : ZM) (x : Nat) : ∀ k, k < 133 → usM aC M x (x + 1) (x + k) = some (cc aC x iv0 av0 k) := by
  intro k hk
  match k, hk with
  | 0, _ => exact us_0 aC M x
  | 1, _ => exact us_1 aC M x
  | 2, _ => exact us_2 aC M x
  | 3, _ => exact us_3 aC M x
  | 4, _ => exact us_4 aC M x
  | 5, _ => exact us_5 aC M x
  | 6, _ => exact us_6 aC M x
  | 7, _ => exact us_7 aC M x
  | 8, _ => exact us_8 aC M x
  | 9, _ => exact us_9 aC M x
  | 10, _ => exact us_10 aC M x
  | 11, _ => exact us_11 aC M x
  | 12, _ => exact us_12 aC M x
  | 13, _ => exact us_13 aC M x
  | 14, _ => exact us_14 aC M x
  | 15, _ => exact us_15 aC M x
  | 16, _ => exact us_16 aC M x
  | 17, _ => exact us_17 aC M x
  | 18, _ => exact us_18 aC M x
  | 19, _ => exact us_19 aC M x
  | 20, _ => exact us_20 aC M x
  | 21, _ => exact us_21 aC M x
  | 22, _ => exact us_22 aC M x
  | 23, _ => exact us_23 aC M x
  | 24, _ => exact us_24 aC M x
  | 25, _ => exact us_25 aC M x
  | 26, _ => exact us_26 aC M x
  | 27, _ => exact us_27 aC M x
  | 28, _ => exact us_28 aC M x
  | 29, _ => exact us_29 aC M x
  | 30, _ => exact us_30 aC M x
  | 31, _ => exact us_31 aC M x
  | 32, _ => exact us_32 aC M x
  | 33, _ => exact us_33 aC M x
  | 34, _ => exact us_34 aC M x
  | 35, _ => exact us_35 aC M x
  | 36, _ => exact us_36 aC M x
  | 37, _ => exact us_37 aC M x
  | 38, _ => exact us_38 aC M x
  | 39, _ => exact us_39 aC M x
  | 40, _ => exact us_40 aC M x
  | 41, _ => exact us_41 aC M x
  | 42, _ => exact us_42 aC M x
  | 43, _ => exact us_43 aC M x
  | 44, _ => exact us_44 aC M x
  | 45, _ => exact us_45 aC M x
  | 46, _ => exact us_46 aC M x
  | 47, _ => exact us_47 aC M x
  | 48, _ => exact us_48 aC M x
  | 49, _ => exact us_49 aC M x
  | 50, _ => exact us_50 aC M x
  | 51, _ => exact us_51 aC M x
  | 52, _ => exact us_52 aC M x
  | 53, _ => exact us_53 aC M x
  | 54, _ => exact us_54 aC M x
  | 55, _ => exact us_55 aC M x
  | 56, _ => exact us_56 aC M x
  | 57, _ => exact us_57 aC M x
  | 58, _ => exact us_58 aC M x
  | 59, _ => exact us_59 aC M x
  | 60, _ => exact us_60 aC M x
  | 61, _ => exact us_61 aC M x
  | 62, _ => exact us_62 aC M x
  | 63, _ => exact us_63 aC M x
  | 64, _ => exact us_64 aC M x
  | 65, _ => exact us_65 aC M x
  | 66, _ => exact us_66 aC M x
  | 67, _ => exact us_67 aC M x
  | 68, _ => exact us_68 aC M x
  | 69, _ => exact us_69 aC M x
  | 70, _ => exact us_70 aC M x
  | 71, _ => exact us_71 aC M x
  | 72, _ => exact us_72 aC M x
  | 73, _ => exact us_73 aC M x
  | 74, _ => exact us_74 aC M x
  | 75, _ => exact us_75 aC M x
  | 76, _ => exact us_76 aC M x
  | 77, _ => exact us_77 aC M x
  | 78, _ => exact us_78 aC M x
  | 79, _ => exact us_79 aC M x
  | 80, _ => exact us_80 aC M x
  | 81, _ => exact us_81 aC M x
  | 82, _ => exact us_82 aC M x
  | 83, _ => exact us_83 aC M x
  | 84, _ => exact us_84 aC M x
  | 85, _ => exact us_85 aC M x
  | 86, _ => exact us_86 aC M x
  | 87, _ => exact us_87 aC M x
  | 88, _ => exact us_88 aC M x
  | 89, _ => exact us_89 aC M x
  | 90, _ => exact us_90 aC M x
  | 91, _ => exact us_91 aC M x
  | 92, _ => exact us_92 aC M x
  | 93, _ => exact us_93 aC M x
  | 94, _ => exact us_94 aC M x
  | 95, _ => exact us_95 aC M x
  | 96, _ => exact us_96 aC M x
  | 97, _ => exact us_97 aC M x
  | 98, _ => exact us_98 aC M x
  | 99, _ => exact us_99 aC M x
  | 100, _ => exact us_100 aC M x
  | 101, _ => exact us_101 aC M x
  | 102, _ => exact us_102 aC M x
  | 103, _ => exact us_103 aC M x
  | 104, _ => exact us_104 aC M x
  | 105, _ => exact us_105 aC M x
  | 106, _ => exact us_106 aC M x
  | 107, _ => exact us_107 aC M x
  | 108, _ => exact us_108 aC M x
  | 109, _ => exact us_109 aC M x
  | 110, _ => exact us_110 aC M x
  | 111, _ => exact us_111 aC M x
  | 112, _ => exact us_112 aC M x
  | 113, _ => exact us_113 aC M x
  | 114, _ => exact us_114 aC M x
  | 115, _ => exact us_115 aC M x
  | 116, _ => exact us_116 aC M x
  | 117, _ => exact us_117 aC M x
  | 118, _ => exact us_118 aC M x
  | 119, _ => exact us_119 aC M x
  | 120, _ => exact us_120 aC M x
  | 121, _ => exact us_121 aC M x
  | 122, _ => exact us_122 aC M x
  | 123, _ => exact us_123 aC M x
  | 124, _ => exact us_124 aC M x
  | 125, _ => exact us_125 aC M x
  | 126, _ => exact us_126 aC M x
  | 127, _ => exact us_127 aC M x
  | 128, _ => exact us_128 aC M x
  | 129, _ => exact us_129 aC M x
  | 130, _ => exact us_130 aC M x
  | 131, _ => exact us_131 aC M x
  | 132, _ => exact us_132 aC M x
  | k + 133, hk => exact absurd hk (by omega)
theorem us_cm (aC : Nat → ClassId) (M : ZM) (x : Nat) : usM aC M x (x + 1) = cm aC x iv0 av0 M := by
  funext q
  by_cases hb : x ≤ q ∧ q < x + 133
  · obtain ⟨j, rfl⟩ : ∃ j, q = x + j := ⟨q - x, by omega⟩
    rw [cm_at (by omega)]
    exact us_all aC M x j (by omega)
  · rw [cm_out (by omega)]
    unfold usM
    rw [oM_out _ (by omega) (by omega)]
    unfold usP7
    rw [zup_ne _ _ (by omega), chM_out _ _ (by omega)]
    unfold usP5
    rw [zup_ne _ _ (by omega), stM_out _ _ (by omega)]
    unfold usP3
    rw [zup_ne _ _ (by omega), woM_out _ _ (by omega) (by omega) (by omega), zup_ne _ _ (by omega)]
    unfold usP1
    rw [zup_ne _ _ (by omega), zup_ne _ _ (by omega)]
end
