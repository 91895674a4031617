/-- the reference while it is made: n of its arrays are there -/
def mqo (r : Nat) (v : Nat → Int32) : Nat → List Value
  | 0 => [.int (v 0), .int (v 1), .null, .null, .null, .null, .null, .null, .null, .null, .null, .null, .null, .null, .null, .null, .null, .null, .null, .null, .int (v 20), .null, .null, .null, .null, .null, .int (v 26), .int (v 27), .null, .null, .null, .null, .null, .int (v 33), .int (v 34), .null, .null, .null, .null, .null, .null, .int (v 41), .int (v 42), .int (v 43), .null, .int (v 45), .null, .int (v 47), .null, .null]
  | 1 => [.int (v 0), .int (v 1), .ref (r + 1), .null, .null, .null, .null, .null, .null, .null, .null, .null, .null, .null, .null, .null, .null, .null, .null, .null, .int (v 20), .null, .null, .null, .null, .null, .int (v 26), .int (v 27), .null, .null, .null, .null, .null, .int (v 33), .int (v 34), .null, .null, .null, .null, .null, .null, .int (v 41), .int (v 42), .int (v 43), .null, .int (v 45), .null, .int (v 47), .null, .null]
  | 2 => [.int (v 0), .int (v 1), .ref (r + 1), .ref (r + 2), .null, .null, .null, .null, .null, .null, .null, .null, .null, .null, .null, .null, .null, .null, .null, .null, .int (v 20), .null, .null, .null, .null, .null, .int (v 26), .int (v 27), .null, .null, .null, .null, .null, .int (v 33), .int (v 34), .null, .null, .null, .null, .null, .null, .int (v 41), .int (v 42), .int (v 43), .null, .int (v 45), .null, .int (v 47), .null, .null]
  | 3 => [.int (v 0), .int (v 1), .ref (r + 1), .ref (r + 2), .ref (r + 3), .null, .null, .null, .null, .null, .null, .null, .null, .null, .null, .null, .null, .null, .null, .null, .int (v 20), .null, .null, .null, .null, .null, .int (v 26), .int (v 27), .null, .null, .null, .null, .null, .int (v 33), .int (v 34), .null, .null, .null, .null, .null, .null, .int (v 41), .int (v 42), .int (v 43), .null, .int (v 45), .null, .int (v 47), .null, .null]
  | 4 => [.int (v 0), .int (v 1), .ref (r + 1), .ref (r + 2), .ref (r + 3), .ref (r + 4), .null, .null, .null, .null, .null, .null, .null, .null, .null, .null, .null, .null, .null, .null, .int (v 20), .null, .null, .null, .null, .null, .int (v 26), .int (v 27), .null, .null, .null, .null, .null, .int (v 33), .int (v 34), .null, .null, .null, .null, .null, .null, .int (v 41), .int (v 42), .int (v 43), .null, .int (v 45), .null, .int (v 47), .null, .null]
  | 5 => [.int (v 0), .int (v 1), .ref (r + 1), .ref (r + 2), .ref (r + 3), .ref (r + 4), .ref (r + 5), .null, .null, .null, .null, .null, .null, .null, .null, .null, .null, .null, .null, .null, .int (v 20), .null, .null, .null, .null, .null, .int (v 26), .int (v 27), .null, .null, .null, .null, .null, .int (v 33), .int (v 34), .null, .null, .null, .null, .null, .null, .int (v 41), .int (v 42), .int (v 43), .null, .int (v 45), .null, .int (v 47), .null, .null]
  | 6 => [.int (v 0), .int (v 1), .ref (r + 1), .ref (r + 2), .ref (r + 3), .ref (r + 4), .ref (r + 5), .ref (r + 6), .null, .null, .null, .null, .null, .null, .null, .null, .null, .null, .null, .null, .int (v 20), .null, .null, .null, .null, .null, .int (v 26), .int (v 27), .null, .null, .null, .null, .null, .int (v 33), .int (v 34), .null, .null, .null, .null, .null, .null, .int (v 41), .int (v 42), .int (v 43), .null, .int (v 45), .null, .int (v 47), .null, .null]
  | 7 => [.int (v 0), .int (v 1), .ref (r + 1), .ref (r + 2), .ref (r + 3), .ref (r + 4), .ref (r + 5), .ref (r + 6), .ref (r + 7), .null, .null, .null, .null, .null, .null, .null, .null, .null, .null, .null, .int (v 20), .null, .null, .null, .null, .null, .int (v 26), .int (v 27), .null, .null, .null, .null, .null, .int (v 33), .int (v 34), .null, .null, .null, .null, .null, .null, .int (v 41), .int (v 42), .int (v 43), .null, .int (v 45), .null, .int (v 47), .null, .null]
  | 8 => [.int (v 0), .int (v 1), .ref (r + 1), .ref (r + 2), .ref (r + 3), .ref (r + 4), .ref (r + 5), .ref (r + 6), .ref (r + 7), .ref (r + 8), .null, .null, .null, .null, .null, .null, .null, .null, .null, .null, .int (v 20), .null, .null, .null, .null, .null, .int (v 26), .int (v 27), .null, .null, .null, .null, .null, .int (v 33), .int (v 34), .null, .null, .null, .null, .null, .null, .int (v 41), .int (v 42), .int (v 43), .null, .int (v 45), .null, .int (v 47), .null, .null]
  | 9 => [.int (v 0), .int (v 1), .ref (r + 1), .ref (r + 2), .ref (r + 3), .ref (r + 4), .ref (r + 5), .ref (r + 6), .ref (r + 7), .ref (r + 8), .ref (r + 9), .null, .null, .null, .null, .null, .null, .null, .null, .null, .int (v 20), .null, .null, .null, .null, .null, .int (v 26), .int (v 27), .null, .null, .null, .null, .null, .int (v 33), .int (v 34), .null, .null, .null, .null, .null, .null, .int (v 41), .int (v 42), .int (v 43), .null, .int (v 45), .null, .int (v 47), .null, .null]
  | 10 => [.int (v 0), .int (v 1), .ref (r + 1), .ref (r + 2), .ref (r + 3), .ref (r + 4), .ref (r + 5), .ref (r + 6), .ref (r + 7), .ref (r + 8), .ref (r + 9), .ref (r + 10), .null, .null, .null, .null, .null, .null, .null, .null, .int (v 20), .null, .null, .null, .null, .null, .int (v 26), .int (v 27), .null, .null, .null, .null, .null, .int (v 33), .int (v 34), .null, .null, .null, .null, .null, .null, .int (v 41), .int (v 42), .int (v 43), .null, .int (v 45), .null, .int (v 47), .null, .null]
  | 11 => [.int (v 0), .int (v 1), .ref (r + 1), .ref (r + 2), .ref (r + 3), .ref (r + 4), .ref (r + 5), .ref (r + 6), .ref (r + 7), .ref (r + 8), .ref (r + 9), .ref (r + 10), .ref (r + 11), .null, .null, .null, .null, .null, .null, .null, .int (v 20), .null, .null, .null, .null, .null, .int (v 26), .int (v 27), .null, .null, .null, .null, .null, .int (v 33), .int (v 34), .null, .null, .null, .null, .null, .null, .int (v 41), .int (v 42), .int (v 43), .null, .int (v 45), .null, .int (v 47), .null, .null]
  | 12 => [.int (v 0), .int (v 1), .ref (r + 1), .ref (r + 2), .ref (r + 3), .ref (r + 4), .ref (r + 5), .ref (r + 6), .ref (r + 7), .ref (r + 8), .ref (r + 9), .ref (r + 10), .ref (r + 11), .ref (r + 12), .null, .null, .null, .null, .null, .null, .int (v 20), .null, .null, .null, .null, .null, .int (v 26), .int (v 27), .null, .null, .null, .null, .null, .int (v 33), .int (v 34), .null, .null, .null, .null, .null, .null, .int (v 41), .int (v 42), .int (v 43), .null, .int (v 45), .null, .int (v 47), .null, .null]
  | 13 => [.int (v 0), .int (v 1), .ref (r + 1), .ref (r + 2), .ref (r + 3), .ref (r + 4), .ref (r + 5), .ref (r + 6), .ref (r + 7), .ref (r + 8), .ref (r + 9), .ref (r + 10), .ref (r + 11), .ref (r + 12), .ref (r + 13), .null, .null, .null, .null, .null, .int (v 20), .null, .null, .null, .null, .null, .int (v 26), .int (v 27), .null, .null, .null, .null, .null, .int (v 33), .int (v 34), .null, .null, .null, .null, .null, .null, .int (v 41), .int (v 42), .int (v 43), .null, .int (v 45), .null, .int (v 47), .null, .null]
  | 14 => [.int (v 0), .int (v 1), .ref (r + 1), .ref (r + 2), .ref (r + 3), .ref (r + 4), .ref (r + 5), .ref (r + 6), .ref (r + 7), .ref (r + 8), .ref (r + 9), .ref (r + 10), .ref (r + 11), .ref (r + 12), .ref (r + 13), .ref (r + 14), .null, .null, .null, .null, .int (v 20), .null, .null, .null, .null, .null, .int (v 26), .int (v 27), .null, .null, .null, .null, .null, .int (v 33), .int (v 34), .null, .null, .null, .null, .null, .null, .int (v 41), .int (v 42), .int (v 43), .null, .int (v 45), .null, .int (v 47), .null, .null]
  | 15 => [.int (v 0), .int (v 1), .ref (r + 1), .ref (r + 2), .ref (r + 3), .ref (r + 4), .ref (r + 5), .ref (r + 6), .ref (r + 7), .ref (r + 8), .ref (r + 9), .ref (r + 10), .ref (r + 11), .ref (r + 12), .ref (r + 13), .ref (r + 14), .ref (r + 15), .null, .null, .null, .int (v 20), .null, .null, .null, .null, .null, .int (v 26), .int (v 27), .null, .null, .null, .null, .null, .int (v 33), .int (v 34), .null, .null, .null, .null, .null, .null, .int (v 41), .int (v 42), .int (v 43), .null, .int (v 45), .null, .int (v 47), .null, .null]
  | 16 => [.int (v 0), .int (v 1), .ref (r + 1), .ref (r + 2), .ref (r + 3), .ref (r + 4), .ref (r + 5), .ref (r + 6), .ref (r + 7), .ref (r + 8), .ref (r + 9), .ref (r + 10), .ref (r + 11), .ref (r + 12), .ref (r + 13), .ref (r + 14), .ref (r + 15), .ref (r + 16), .null, .null, .int (v 20), .null, .null, .null, .null, .null, .int (v 26), .int (v 27), .null, .null, .null, .null, .null, .int (v 33), .int (v 34), .null, .null, .null, .null, .null, .null, .int (v 41), .int (v 42), .int (v 43), .null, .int (v 45), .null, .int (v 47), .null, .null]
  | 17 => [.int (v 0), .int (v 1), .ref (r + 1), .ref (r + 2), .ref (r + 3), .ref (r + 4), .ref (r + 5), .ref (r + 6), .ref (r + 7), .ref (r + 8), .ref (r + 9), .ref (r + 10), .ref (r + 11), .ref (r + 12), .ref (r + 13), .ref (r + 14), .ref (r + 15), .ref (r + 16), .ref (r + 17), .null, .int (v 20), .null, .null, .null, .null, .null, .int (v 26), .int (v 27), .null, .null, .null, .null, .null, .int (v 33), .int (v 34), .null, .null, .null, .null, .null, .null, .int (v 41), .int (v 42), .int (v 43), .null, .int (v 45), .null, .int (v 47), .null, .null]
  | 18 => [.int (v 0), .int (v 1), .ref (r + 1), .ref (r + 2), .ref (r + 3), .ref (r + 4), .ref (r + 5), .ref (r + 6), .ref (r + 7), .ref (r + 8), .ref (r + 9), .ref (r + 10), .ref (r + 11), .ref (r + 12), .ref (r + 13), .ref (r + 14), .ref (r + 15), .ref (r + 16), .ref (r + 17), .ref (r + 18), .int (v 20), .null, .null, .null, .null, .null, .int (v 26), .int (v 27), .null, .null, .null, .null, .null, .int (v 33), .int (v 34), .null, .null, .null, .null, .null, .null, .int (v 41), .int (v 42), .int (v 43), .null, .int (v 45), .null, .int (v 47), .null, .null]
  | 19 => [.int (v 0), .int (v 1), .ref (r + 1), .ref (r + 2), .ref (r + 3), .ref (r + 4), .ref (r + 5), .ref (r + 6), .ref (r + 7), .ref (r + 8), .ref (r + 9), .ref (r + 10), .ref (r + 11), .ref (r + 12), .ref (r + 13), .ref (r + 14), .ref (r + 15), .ref (r + 16), .ref (r + 17), .ref (r + 18), .int (v 20), .ref (r + 19), .null, .null, .null, .null, .int (v 26), .int (v 27), .null, .null, .null, .null, .null, .int (v 33), .int (v 34), .null, .null, .null, .null, .null, .null, .int (v 41), .int (v 42), .int (v 43), .null, .int (v 45), .null, .int (v 47), .null, .null]
  | 20 => [.int (v 0), .int (v 1), .ref (r + 1), .ref (r + 2), .ref (r + 3), .ref (r + 4), .ref (r + 5), .ref (r + 6), .ref (r + 7), .ref (r + 8), .ref (r + 9), .ref (r + 10), .ref (r + 11), .ref (r + 12), .ref (r + 13), .ref (r + 14), .ref (r + 15), .ref (r + 16), .ref (r + 17), .ref (r + 18), .int (v 20), .ref (r + 19), .ref (r + 20), .null, .null, .null, .int (v 26), .int (v 27), .null, .null, .null, .null, .null, .int (v 33), .int (v 34), .null, .null, .null, .null, .null, .null, .int (v 41), .int (v 42), .int (v 43), .null, .int (v 45), .null, .int (v 47), .null, .null]
  | 21 => [.int (v 0), .int (v 1), .ref (r + 1), .ref (r + 2), .ref (r + 3), .ref (r + 4), .ref (r + 5), .ref (r + 6), .ref (r + 7), .ref (r + 8), .ref (r + 9), .ref (r + 10), .ref (r + 11), .ref (r + 12), .ref (r + 13), .ref (r + 14), .ref (r + 15), .ref (r + 16), .ref (r + 17), .ref (r + 18), .int (v 20), .ref (r + 19), .ref (r + 20), .ref (r + 21), .null, .null, .int (v 26), .int (v 27), .null, .null, .null, .null, .null, .int (v 33), .int (v 34), .null, .null, .null, .null, .null, .null, .int (v 41), .int (v 42), .int (v 43), .null, .int (v 45), .null, .int (v 47), .null, .null]
  | 22 => [.int (v 0), .int (v 1), .ref (r + 1), .ref (r + 2), .ref (r + 3), .ref (r + 4), .ref (r + 5), .ref (r + 6), .ref (r + 7), .ref (r + 8), .ref (r + 9), .ref (r + 10), .ref (r + 11), .ref (r + 12), .ref (r + 13), .ref (r + 14), .ref (r + 15), .ref (r + 16), .ref (r + 17), .ref (r + 18), .int (v 20), .ref (r + 19), .ref (r + 20), .ref (r + 21), .ref (r + 22), .null, .int (v 26), .int (v 27), .null, .null, .null, .null, .null, .int (v 33), .int (v 34), .null, .null, .null, .null, .null, .null, .int (v 41), .int (v 42), .int (v 43), .null, .int (v 45), .null, .int (v 47), .null, .null]
  | 23 => [.int (v 0), .int (v 1), .ref (r + 1), .ref (r + 2), .ref (r + 3), .ref (r + 4), .ref (r + 5), .ref (r + 6), .ref (r + 7), .ref (r + 8), .ref (r + 9), .ref (r + 10), .ref (r + 11), .ref (r + 12), .ref (r + 13), .ref (r + 14), .ref (r + 15), .ref (r + 16), .ref (r + 17), .ref (r + 18), .int (v 20), .ref (r + 19), .ref (r + 20), .ref (r + 21), .ref (r + 22), .ref (r + 23), .int (v 26), .int (v 27), .null, .null, .null, .null, .null, .int (v 33), .int (v 34), .null, .null, .null, .null, .null, .null, .int (v 41), .int (v 42), .int (v 43), .null, .int (v 45), .null, .int (v 47), .null, .null]
  | 24 => [.int (v 0), .int (v 1), .ref (r + 1), .ref (r + 2), .ref (r + 3), .ref (r + 4), .ref (r + 5), .ref (r + 6), .ref (r + 7), .ref (r + 8), .ref (r + 9), .ref (r + 10), .ref (r + 11), .ref (r + 12), .ref (r + 13), .ref (r + 14), .ref (r + 15), .ref (r + 16), .ref (r + 17), .ref (r + 18), .int (v 20), .ref (r + 19), .ref (r + 20), .ref (r + 21), .ref (r + 22), .ref (r + 23), .int (v 26), .int (v 27), .ref (r + 24), .null, .null, .null, .null, .int (v 33), .int (v 34), .null, .null, .null, .null, .null, .null, .int (v 41), .int (v 42), .int (v 43), .null, .int (v 45), .null, .int (v 47), .null, .null]
  | 25 => [.int (v 0), .int (v 1), .ref (r + 1), .ref (r + 2), .ref (r + 3), .ref (r + 4), .ref (r + 5), .ref (r + 6), .ref (r + 7), .ref (r + 8), .ref (r + 9), .ref (r + 10), .ref (r + 11), .ref (r + 12), .ref (r + 13), .ref (r + 14), .ref (r + 15), .ref (r + 16), .ref (r + 17), .ref (r + 18), .int (v 20), .ref (r + 19), .ref (r + 20), .ref (r + 21), .ref (r + 22), .ref (r + 23), .int (v 26), .int (v 27), .ref (r + 24), .ref (r + 25), .null, .null, .null, .int (v 33), .int (v 34), .null, .null, .null, .null, .null, .null, .int (v 41), .int (v 42), .int (v 43), .null, .int (v 45), .null, .int (v 47), .null, .null]
  | 26 => [.int (v 0), .int (v 1), .ref (r + 1), .ref (r + 2), .ref (r + 3), .ref (r + 4), .ref (r + 5), .ref (r + 6), .ref (r + 7), .ref (r + 8), .ref (r + 9), .ref (r + 10), .ref (r + 11), .ref (r + 12), .ref (r + 13), .ref (r + 14), .ref (r + 15), .ref (r + 16), .ref (r + 17), .ref (r + 18), .int (v 20), .ref (r + 19), .ref (r + 20), .ref (r + 21), .ref (r + 22), .ref (r + 23), .int (v 26), .int (v 27), .ref (r + 24), .ref (r + 25), .ref (r + 26), .null, .null, .int (v 33), .int (v 34), .null, .null, .null, .null, .null, .null, .int (v 41), .int (v 42), .int (v 43), .null, .int (v 45), .null, .int (v 47), .null, .null]
  | 27 => [.int (v 0), .int (v 1), .ref (r + 1), .ref (r + 2), .ref (r + 3), .ref (r + 4), .ref (r + 5), .ref (r + 6), .ref (r + 7), .ref (r + 8), .ref (r + 9), .ref (r + 10), .ref (r + 11), .ref (r + 12), .ref (r + 13), .ref (r + 14), .ref (r + 15), .ref (r + 16), .ref (r + 17), .ref (r + 18), .int (v 20), .ref (r + 19), .ref (r + 20), .ref (r + 21), .ref (r + 22), .ref (r + 23), .int (v 26), .int (v 27), .ref (r + 24), .ref (r + 25), .ref (r + 26), .ref (r + 27), .null, .int (v 33), .int (v 34), .null, .null, .null, .null, .null, .null, .int (v 41), .int (v 42), .int (v 43), .null, .int (v 45), .null, .int (v 47), .null, .null]
  | 28 => [.int (v 0), .int (v 1), .ref (r + 1), .ref (r + 2), .ref (r + 3), .ref (r + 4), .ref (r + 5), .ref (r + 6), .ref (r + 7), .ref (r + 8), .ref (r + 9), .ref (r + 10), .ref (r + 11), .ref (r + 12), .ref (r + 13), .ref (r + 14), .ref (r + 15), .ref (r + 16), .ref (r + 17), .ref (r + 18), .int (v 20), .ref (r + 19), .ref (r + 20), .ref (r + 21), .ref (r + 22), .ref (r + 23), .int (v 26), .int (v 27), .ref (r + 24), .ref (r + 25), .ref (r + 26), .ref (r + 27), .ref (r + 28), .int (v 33), .int (v 34), .null, .null, .null, .null, .null, .null, .int (v 41), .int (v 42), .int (v 43), .null, .int (v 45), .null, .int (v 47), .null, .null]
  | 29 => [.int (v 0), .int (v 1), .ref (r + 1), .ref (r + 2), .ref (r + 3), .ref (r + 4), .ref (r + 5), .ref (r + 6), .ref (r + 7), .ref (r + 8), .ref (r + 9), .ref (r + 10), .ref (r + 11), .ref (r + 12), .ref (r + 13), .ref (r + 14), .ref (r + 15), .ref (r + 16), .ref (r + 17), .ref (r + 18), .int (v 20), .ref (r + 19), .ref (r + 20), .ref (r + 21), .ref (r + 22), .ref (r + 23), .int (v 26), .int (v 27), .ref (r + 24), .ref (r + 25), .ref (r + 26), .ref (r + 27), .ref (r + 28), .int (v 33), .int (v 34), .ref (r + 29), .null, .null, .null, .null, .null, .int (v 41), .int (v 42), .int (v 43), .null, .int (v 45), .null, .int (v 47), .null, .null]
  | 30 => [.int (v 0), .int (v 1), .ref (r + 1), .ref (r + 2), .ref (r + 3), .ref (r + 4), .ref (r + 5), .ref (r + 6), .ref (r + 7), .ref (r + 8), .ref (r + 9), .ref (r + 10), .ref (r + 11), .ref (r + 12), .ref (r + 13), .ref (r + 14), .ref (r + 15), .ref (r + 16), .ref (r + 17), .ref (r + 18), .int (v 20), .ref (r + 19), .ref (r + 20), .ref (r + 21), .ref (r + 22), .ref (r + 23), .int (v 26), .int (v 27), .ref (r + 24), .ref (r + 25), .ref (r + 26), .ref (r + 27), .ref (r + 28), .int (v 33), .int (v 34), .ref (r + 29), .ref (r + 30), .null, .null, .null, .null, .int (v 41), .int (v 42), .int (v 43), .null, .int (v 45), .null, .int (v 47), .null, .null]
  | 31 => [.int (v 0), .int (v 1), .ref (r + 1), .ref (r + 2), .ref (r + 3), .ref (r + 4), .ref (r + 5), .ref (r + 6), .ref (r + 7), .ref (r + 8), .ref (r + 9), .ref (r + 10), .ref (r + 11), .ref (r + 12), .ref (r + 13), .ref (r + 14), .ref (r + 15), .ref (r + 16), .ref (r + 17), .ref (r + 18), .int (v 20), .ref (r + 19), .ref (r + 20), .ref (r + 21), .ref (r + 22), .ref (r + 23), .int (v 26), .int (v 27), .ref (r + 24), .ref (r + 25), .ref (r + 26), .ref (r + 27), .ref (r + 28), .int (v 33), .int (v 34), .ref (r + 29), .ref (r + 30), .ref (r + 31), .null, .null, .null, .int (v 41), .int (v 42), .int (v 43), .null, .int (v 45), .null, .int (v 47), .null, .null]
  | 32 => [.int (v 0), .int (v 1), .ref (r + 1), .ref (r + 2), .ref (r + 3), .ref (r + 4), .ref (r + 5), .ref (r + 6), .ref (r + 7), .ref (r + 8), .ref (r + 9), .ref (r + 10), .ref (r + 11), .ref (r + 12), .ref (r + 13), .ref (r + 14), .ref (r + 15), .ref (r + 16), .ref (r + 17), .ref (r + 18), .int (v 20), .ref (r + 19), .ref (r + 20), .ref (r + 21), .ref (r + 22), .ref (r + 23), .int (v 26), .int (v 27), .ref (r + 24), .ref (r + 25), .ref (r + 26), .ref (r + 27), .ref (r + 28), .int (v 33), .int (v 34), .ref (r + 29), .ref (r + 30), .ref (r + 31), .ref (r + 32), .null, .null, .int (v 41), .int (v 42), .int (v 43), .null, .int (v 45), .null, .int (v 47), .null, .null]
  | 33 => [.int (v 0), .int (v 1), .ref (r + 1), .ref (r + 2), .ref (r + 3), .ref (r + 4), .ref (r + 5), .ref (r + 6), .ref (r + 7), .ref (r + 8), .ref (r + 9), .ref (r + 10), .ref (r + 11), .ref (r + 12), .ref (r + 13), .ref (r + 14), .ref (r + 15), .ref (r + 16), .ref (r + 17), .ref (r + 18), .int (v 20), .ref (r + 19), .ref (r + 20), .ref (r + 21), .ref (r + 22), .ref (r + 23), .int (v 26), .int (v 27), .ref (r + 24), .ref (r + 25), .ref (r + 26), .ref (r + 27), .ref (r + 28), .int (v 33), .int (v 34), .ref (r + 29), .ref (r + 30), .ref (r + 31), .ref (r + 32), .ref (r + 33), .null, .int (v 41), .int (v 42), .int (v 43), .null, .int (v 45), .null, .int (v 47), .null, .null]
  | 34 => [.int (v 0), .int (v 1), .ref (r + 1), .ref (r + 2), .ref (r + 3), .ref (r + 4), .ref (r + 5), .ref (r + 6), .ref (r + 7), .ref (r + 8), .ref (r + 9), .ref (r + 10), .ref (r + 11), .ref (r + 12), .ref (r + 13), .ref (r + 14), .ref (r + 15), .ref (r + 16), .ref (r + 17), .ref (r + 18), .int (v 20), .ref (r + 19), .ref (r + 20), .ref (r + 21), .ref (r + 22), .ref (r + 23), .int (v 26), .int (v 27), .ref (r + 24), .ref (r + 25), .ref (r + 26), .ref (r + 27), .ref (r + 28), .int (v 33), .int (v 34), .ref (r + 29), .ref (r + 30), .ref (r + 31), .ref (r + 32), .ref (r + 33), .ref (r + 34), .int (v 41), .int (v 42), .int (v 43), .null, .int (v 45), .null, .int (v 47), .null, .null]
  | 35 => [.int (v 0), .int (v 1), .ref (r + 1), .ref (r + 2), .ref (r + 3), .ref (r + 4), .ref (r + 5), .ref (r + 6), .ref (r + 7), .ref (r + 8), .ref (r + 9), .ref (r + 10), .ref (r + 11), .ref (r + 12), .ref (r + 13), .ref (r + 14), .ref (r + 15), .ref (r + 16), .ref (r + 17), .ref (r + 18), .int (v 20), .ref (r + 19), .ref (r + 20), .ref (r + 21), .ref (r + 22), .ref (r + 23), .int (v 26), .int (v 27), .ref (r + 24), .ref (r + 25), .ref (r + 26), .ref (r + 27), .ref (r + 28), .int (v 33), .int (v 34), .ref (r + 29), .ref (r + 30), .ref (r + 31), .ref (r + 32), .ref (r + 33), .ref (r + 34), .int (v 41), .int (v 42), .int (v 43), .ref (r + 35), .int (v 45), .null, .int (v 47), .null, .null]
  | 36 => [.int (v 0), .int (v 1), .ref (r + 1), .ref (r + 2), .ref (r + 3), .ref (r + 4), .ref (r + 5), .ref (r + 6), .ref (r + 7), .ref (r + 8), .ref (r + 9), .ref (r + 10), .ref (r + 11), .ref (r + 12), .ref (r + 13), .ref (r + 14), .ref (r + 15), .ref (r + 16), .ref (r + 17), .ref (r + 18), .int (v 20), .ref (r + 19), .ref (r + 20), .ref (r + 21), .ref (r + 22), .ref (r + 23), .int (v 26), .int (v 27), .ref (r + 24), .ref (r + 25), .ref (r + 26), .ref (r + 27), .ref (r + 28), .int (v 33), .int (v 34), .ref (r + 29), .ref (r + 30), .ref (r + 31), .ref (r + 32), .ref (r + 33), .ref (r + 34), .int (v 41), .int (v 42), .int (v 43), .ref (r + 35), .int (v 45), .ref (r + 36), .int (v 47), .null, .null]
  | 37 => [.int (v 0), .int (v 1), .ref (r + 1), .ref (r + 2), .ref (r + 3), .ref (r + 4), .ref (r + 5), .ref (r + 6), .ref (r + 7), .ref (r + 8), .ref (r + 9), .ref (r + 10), .ref (r + 11), .ref (r + 12), .ref (r + 13), .ref (r + 14), .ref (r + 15), .ref (r + 16), .ref (r + 17), .ref (r + 18), .int (v 20), .ref (r + 19), .ref (r + 20), .ref (r + 21), .ref (r + 22), .ref (r + 23), .int (v 26), .int (v 27), .ref (r + 24), .ref (r + 25), .ref (r + 26), .ref (r + 27), .ref (r + 28), .int (v 33), .int (v 34), .ref (r + 29), .ref (r + 30), .ref (r + 31), .ref (r + 32), .ref (r + 33), .ref (r + 34), .int (v 41), .int (v 42), .int (v 43), .ref (r + 35), .int (v 45), .ref (r + 36), .int (v 47), .ref (r + 37), .null]
  | _ => [.int (v 0), .int (v 1), .ref (r + 1), .ref (r + 2), .ref (r + 3), .ref (r + 4), .ref (r + 5), .ref (r + 6), .ref (r + 7), .ref (r + 8), .ref (r + 9), .ref (r + 10), .ref (r + 11), .ref (r + 12), .ref (r + 13), .ref (r + 14), .ref (r + 15), .ref (r + 16), .ref (r + 17), .ref (r + 18), .int (v 20), .ref (r + 19), .ref (r + 20), .ref (r + 21), .ref (r + 22), .ref (r + 23), .int (v 26), .int (v 27), .ref (r + 24), .ref (r + 25), .ref (r + 26), .ref (r + 27), .ref (r + 28), .int (v 33), .int (v 34), .ref (r + 29), .ref (r + 30), .ref (r + 31), .ref (r + 32), .ref (r + 33), .ref (r + 34), .int (v 41), .int (v 42), .int (v 43), .ref (r + 35), .int (v 45), .ref (r + 36), .int (v 47), .ref (r + 37), .ref (r + 38)]
def mq (aC : Nat → ClassId) (r : Nat) (v : Nat → Int32) (A : Nat → Nat → Int32) (R : ZM) (n : Nat) : ZM := fun q => if q = r then some (.inr (9, mqo r v n)) else if r < q ∧ q < r + (n + 1) then some (mc aC r v A (q - r)) else R q
theorem mq_r (aC : Nat → ClassId) (r : Nat) (v : Nat → Int32) (A : Nat → Nat → Int32) (R : ZM) (n : Nat) : mq aC r v A R n r = some (.inr (9, mqo r v n)) := by simp [mq]
theorem mq_step {aC : Nat → ClassId} {r : Nat} {v : Nat → Int32} {A : Nat → Nat → Int32} {R : ZM} {n : Nat} {e : va_E} {fs : List Value} (he : mc aC r v A (n + 1) = e) (hf : fs = mqo r v (n + 1)) : zup (zup (mq aC r v A R n) (r + (n + 1)) e) r (.inr (9, fs)) = mq aC r v A R (n + 1) := by
  subst hf; subst he
  funext q
  by_cases h1 : q = r
  · subst h1; rw [zup_self, mq_r]
  · rw [zup_ne _ _ h1]
    by_cases h2 : q = r + (n + 1)
    · subst h2
      rw [zup_self]
      simp only [mq]
      rw [if_neg h1, if_pos ⟨by omega, by omega⟩, Nat.add_sub_cancel_left]
    · rw [zup_ne _ _ h2]
      simp only [mq]
      rw [if_neg h1, if_neg h1]
      by_cases h3 : r < q ∧ q < r + (n + 1)
      · rw [if_pos h3, if_pos ⟨h3.1, by omega⟩]
      · rw [if_neg h3, if_neg (by omega)]
theorem mq_full {aC : Nat → ClassId} {r : Nat} {v : Nat → Int32} {A : Nat → Nat → Int32} {R : ZM} : mq aC r v A R 38 = mm aC r v A R := by
  funext q
  by_cases h1 : q = r
  · subst h1; rw [mq_r, rm_0]; rfl
  · simp only [mq, mm]
    rw [if_neg h1]
    by_cases h3 : r < q ∧ q < r + (38 + 1)
    · rw [if_pos h3, if_pos ⟨by omega, by omega⟩]
    · rw [if_neg h3, if_neg (by omega)]
theorem mq_v {aC : Nat → ClassId} {r : Nat} {v v' : Nat → Int32} {A : Nat → Nat → Int32} {R : ZM} {n : Nat} {fs : List Value} (hf : fs = mqo r v' n) : zup (mq aC r v A R n) r (.inr (9, fs)) = mq aC r v' A R n := by
  subst hf
  funext q
  by_cases h1 : q = r
  · subst h1; rw [zup_self, mq_r]
  · rw [zup_ne _ _ h1]
    simp only [mq]
    rw [if_neg h1, if_neg h1]
    by_cases h3 : r < q ∧ q < r + (n + 1)
    · rw [if_pos h3, if_pos h3]
      have h4 : q - r ≠ 0 := by omega
      simp [mc, h4]
    · rw [if_neg h3, if_neg h3]
def stX9_init_326 (i1_ : (Nat → Int32)) : Nat → (Nat → Int32)
  | 0 => (i1_)
  | j + 1 => ((upd ((stX9_init_326 i1_ j)) (Int32.toNatClampNeg (nI j)) ((-1))))
set_option maxHeartbeats 2000000 in
set_option maxRecDepth 10000 in
theorem lpX9_init_326 {p : Program} {l : Launch} {e : Env} {Rm : Room} {s : State} {m : MethodId} {args : Array Value} {below : List Frame} {meth : Method} {c : Code} {D : va_G} {aC : Nat → ClassId} {b0 cells slots : Nat} {Q : State → Prop} {r : Nat} {v : Nat → Int32} {A : Nat → Nat → Int32} {R : ZM} {i1_ : (Nat → Int32)} {N_ sz : Nat} (C : zC p l s m c D aC b0 RX9 cX9_init 2) (hNb : (12 : Int32) = nI N_) (hN2 : N_ ≤ 12) (hNl : N_ < 2 ^ 31) :
    ∀ (d j : Nat), j + d = N_ → ∀ (ls : Array Slot), lv_has ls 2 [(0, .ref (r)), (1, .int (nI j))] → (∀ (ls : Array Slot), lv_has ls 2 [(0, .ref (r)), (1, .int (nI N_))] → Z p l e Rm s m args below meth c D b0 (mm aC r v (u1 A 34 (stX9_init_326 i1_ N_)) R) sz cells slots Q (F0 m 345 ls [])) → Z p l e Rm s m args below meth c D b0 (mm aC r v (u1 A 34 (stX9_init_326 i1_ j)) R) sz cells slots Q (F0 m 326 ls []) := by
  obtain ⟨hx, hb, -, -, -⟩ := id C
  intro d
  induction d with
  | zero =>
    intro j hj0 ls hl K
    refine zz (fun _ _ => lv_iload_n hx hb dX9_init_326 rfl (lv_at hl 1 rfl)) ?_
    refine zz (fun _ _ => lv_bipush (v := 12) hx hb dX9_init_327 (by decide)) ?_
    refine zb (fun _ _ => lv_icmp_ge (tgt := 345) hx hb dX9_init_329 (by decide)) (fun c_1 => ?_) (fun c_1 => ?_)
    · obtain rfl := fl_eq (j := j) (N := N_) hNb (by omega) hNl c_1
      exact K _ (lv_sub hl [0, 1] rfl)
    · exact absurd (fl_lt (j := j) (N := N_) hNb (by omega) hNl c_1) (by omega)
  | succ d ih =>
    intro j hj0 ls hl K
    refine zz (fun _ _ => lv_iload_n hx hb dX9_init_326 rfl (lv_at hl 1 rfl)) ?_
    refine zz (fun _ _ => lv_bipush (v := 12) hx hb dX9_init_327 (by decide)) ?_
    refine zb (fun _ _ => lv_icmp_ge (tgt := 345) hx hb dX9_init_329 (by decide)) (fun c_1 => ?_) (fun c_1 => ?_)
    · obtain rfl := fl_eq (j := j) (N := N_) hNb (by omega) hNl c_1
      exact K _ (lv_sub hl [0, 1] rfl)
    · have hj9 : j < N_ := fl_lt hNb (by omega) hNl c_1
      refine zz (fun _ _ => lv_aload_n hx hb dX9_init_332 rfl (lv_at hl 0 rfl)) ?_
      refine z_get (v := .ref (r + 34)) C fd_X9_110 rm_0 rfl dX9_init_333 ?_
      refine zz (fun _ _ => lv_iload_n hx hb dX9_init_336 rfl (lv_at hl 1 rfl)) ?_
      refine zz (fun _ _ => lv_iconst (v := (-1)) hx hb dX9_init_337 (by decide)) ?_
      refine z_iast (f := (stX9_init_326 i1_ j)) C rm_34 (in_nI (j := j) rfl (by omega) (by decide)) dX9_init_338 ?_
      refine zeq wm_34 ?_
      refine zeq (M' := (mm aC r v (u1 A 34 (upd ((stX9_init_326 i1_ j)) (Int32.toNatClampNeg (nI j)) ((-1)))) R)) (by rw [u1_u1]) ?_
      refine zs (fun _ _ => lv_iinc (v := nI j + 1) (lv' := [(1, .int (nI j + 1)), (0, .ref (r))]) hx hb dX9_init_339 hl (k := 1) rfl rfl (by decide) rfl) (fun ls hl => ?_)
      refine zz (fun _ _ => lv_goto (tgt := 326) hx hb dX9_init_342 (by decide)) ?_
      have hI := ih (j + 1) (by omega)
      simp only [stX9_init_326, if_neg c_1] at hI
      have hl := lv_sub hl [1, 0] rfl
      simp only [nI_1] at hl
      exact hI _ hl K
def vM0 : Nat → Int32 := (upd (fun _ => 0) 42 (-1))
def AM0 : Nat → Nat → Int32 := (u1 (u1 (fun _ _ => 0) 23 (upd ((fun _ _ => 0) 23) (Int32.toNatClampNeg (0)) (1))) 34 (stX9_init_326 ((fun _ _ => 0) 34) 12))
set_option maxHeartbeats 4000000 in
set_option maxRecDepth 20000 in
theorem ctX9_init {l : Launch} {D : va_G} {aC : Nat → ClassId} {b0 r : Nat} {R : ZM} : Ct l D aC b0 yX9_init cX9_init 2 none 1 38 43742 [.ref r] (mq aC r (fun _ => 0) (fun _ _ => 0) R 0) (r + 1) (zdz none (mm aC r vM0 AM0 R) (r + 39)) := by
  refine Ct.of (by decide) (Nat.le_of_ble_eq_true rfl) ?_
  intro p e s m below meth c ls C hr hlk hnm hl
  have hl : lv_has ls 2 [(0, .ref r)] := hl
  obtain ⟨hx, hb, -, -, -⟩ := id C
  refine zz (fun _ _ => lv_aload_n hx hb dX9_init_0 rfl (lv_at hl 0 rfl)) ?_
  refine z_obj C hl.1 ob_X9_1 (by decide) (by decide) dX9_init_1 ?_
  refine zz (fun _ _ => lv_aload_n hx hb dX9_init_4 rfl (lv_at hl 0 rfl)) ?_
  refine zz (fun _ _ => lv_bipush (v := 12) hx hb dX9_init_5 (by decide)) ?_
  refine z_newi (N' := 12) C (by decide) (by decide) (by decide) (by decide) (by decide) dX9_init_7 ?_
  refine z_put C fp_X9_7 (fun _ => hnm) ((zup_ne _ _ (by omega)).trans (mq_r _ _ _ _ _ 0)) (Nat.le_of_ble_eq_true rfl) rfl rfl dX9_init_9 ?_
  refine zeq (M' := mq aC r (fun _ => 0) (fun _ _ => 0) R 1) (mq_step rfl rfl) ?_
  refine zsz (sz' := r + (1 + 1)) rfl (zcs (k := 1) (n := 12) rfl rfl ?_)
  refine zz (fun _ _ => lv_aload_n hx hb dX9_init_12 rfl (lv_at hl 0 rfl)) ?_
  refine zz (fun _ _ => lv_bipush (v := 12) hx hb dX9_init_13 (by decide)) ?_
  refine z_newi (N' := 12) C (by decide) (by decide) (by decide) (by decide) (by decide) dX9_init_15 ?_
  refine z_put C fp_X9_13 (fun _ => hnm) ((zup_ne _ _ (by omega)).trans (mq_r _ _ _ _ _ 1)) (Nat.le_of_ble_eq_true rfl) rfl rfl dX9_init_17 ?_
  refine zeq (M' := mq aC r (fun _ => 0) (fun _ _ => 0) R 2) (mq_step rfl rfl) ?_
  refine zsz (sz' := r + (2 + 1)) rfl (zcs (k := 2) (n := 24) rfl rfl ?_)
  refine zz (fun _ _ => lv_aload_n hx hb dX9_init_20 rfl (lv_at hl 0 rfl)) ?_
  refine zz (fun _ _ => lv_bipush (v := 12) hx hb dX9_init_21 (by decide)) ?_
  refine z_newi (N' := 12) C (by decide) (by decide) (by decide) (by decide) (by decide) dX9_init_23 ?_
  refine z_put C fp_X9_16 (fun _ => hnm) ((zup_ne _ _ (by omega)).trans (mq_r _ _ _ _ _ 2)) (Nat.le_of_ble_eq_true rfl) rfl rfl dX9_init_25 ?_
  refine zeq (M' := mq aC r (fun _ => 0) (fun _ _ => 0) R 3) (mq_step rfl rfl) ?_
  refine zsz (sz' := r + (3 + 1)) rfl (zcs (k := 3) (n := 36) rfl rfl ?_)
  refine zz (fun _ _ => lv_aload_n hx hb dX9_init_28 rfl (lv_at hl 0 rfl)) ?_
  refine zz (fun _ _ => lv_bipush (v := 12) hx hb dX9_init_29 (by decide)) ?_
  refine z_newz (N' := 12) C (by decide) (by decide) (by decide) (by decide) (by decide) dX9_init_31 ?_
  refine z_put C fp_X9_19 (fun _ => hnm) ((zup_ne _ _ (by omega)).trans (mq_r _ _ _ _ _ 3)) (Nat.le_of_ble_eq_true rfl) rfl rfl dX9_init_33 ?_
  refine zeq (M' := mq aC r (fun _ => 0) (fun _ _ => 0) R 4) (mq_step rfl rfl) ?_
  refine zsz (sz' := r + (4 + 1)) rfl (zcs (k := 4) (n := 48) rfl rfl ?_)
  refine zz (fun _ _ => lv_aload_n hx hb dX9_init_36 rfl (lv_at hl 0 rfl)) ?_
  refine zz (fun _ _ => lv_bipush (v := 12) hx hb dX9_init_37 (by decide)) ?_
  refine z_newi (N' := 12) C (by decide) (by decide) (by decide) (by decide) (by decide) dX9_init_39 ?_
  refine z_put C fp_X9_23 (fun _ => hnm) ((zup_ne _ _ (by omega)).trans (mq_r _ _ _ _ _ 4)) (Nat.le_of_ble_eq_true rfl) rfl rfl dX9_init_41 ?_
  refine zeq (M' := mq aC r (fun _ => 0) (fun _ _ => 0) R 5) (mq_step rfl rfl) ?_
  refine zsz (sz' := r + (5 + 1)) rfl (zcs (k := 5) (n := 60) rfl rfl ?_)
  refine zz (fun _ _ => lv_aload_n hx hb dX9_init_44 rfl (lv_at hl 0 rfl)) ?_
  refine zz (fun _ _ => lv_bipush (v := 72) hx hb dX9_init_45 (by decide)) ?_
  refine z_newi (N' := 72) C (by decide) (by decide) (by decide) (by decide) (by decide) dX9_init_47 ?_
  refine z_put C fp_X9_26 (fun _ => hnm) ((zup_ne _ _ (by omega)).trans (mq_r _ _ _ _ _ 5)) (Nat.le_of_ble_eq_true rfl) rfl rfl dX9_init_49 ?_
  refine zeq (M' := mq aC r (fun _ => 0) (fun _ _ => 0) R 6) (mq_step rfl rfl) ?_
  refine zsz (sz' := r + (6 + 1)) rfl (zcs (k := 6) (n := 132) rfl rfl ?_)
  refine zz (fun _ _ => lv_aload_n hx hb dX9_init_52 rfl (lv_at hl 0 rfl)) ?_
  refine zz (fun _ _ => lv_bipush (v := 72) hx hb dX9_init_53 (by decide)) ?_
  refine z_newi (N' := 72) C (by decide) (by decide) (by decide) (by decide) (by decide) dX9_init_55 ?_
  refine z_put C fp_X9_29 (fun _ => hnm) ((zup_ne _ _ (by omega)).trans (mq_r _ _ _ _ _ 6)) (Nat.le_of_ble_eq_true rfl) rfl rfl dX9_init_57 ?_
  refine zeq (M' := mq aC r (fun _ => 0) (fun _ _ => 0) R 7) (mq_step rfl rfl) ?_
  refine zsz (sz' := r + (7 + 1)) rfl (zcs (k := 7) (n := 204) rfl rfl ?_)
  refine zz (fun _ _ => lv_aload_n hx hb dX9_init_60 rfl (lv_at hl 0 rfl)) ?_
  refine zz (fun _ _ => lv_bipush (v := 72) hx hb dX9_init_61 (by decide)) ?_
  refine z_newi (N' := 72) C (by decide) (by decide) (by decide) (by decide) (by decide) dX9_init_63 ?_
  refine z_put C fp_X9_32 (fun _ => hnm) ((zup_ne _ _ (by omega)).trans (mq_r _ _ _ _ _ 7)) (Nat.le_of_ble_eq_true rfl) rfl rfl dX9_init_65 ?_
  refine zeq (M' := mq aC r (fun _ => 0) (fun _ _ => 0) R 8) (mq_step rfl rfl) ?_
  refine zsz (sz' := r + (8 + 1)) rfl (zcs (k := 8) (n := 276) rfl rfl ?_)
  refine zz (fun _ _ => lv_aload_n hx hb dX9_init_68 rfl (lv_at hl 0 rfl)) ?_
  refine zz (fun _ _ => lv_bipush (v := 72) hx hb dX9_init_69 (by decide)) ?_
  refine z_newz (N' := 72) C (by decide) (by decide) (by decide) (by decide) (by decide) dX9_init_71 ?_
  refine z_put C fp_X9_35 (fun _ => hnm) ((zup_ne _ _ (by omega)).trans (mq_r _ _ _ _ _ 8)) (Nat.le_of_ble_eq_true rfl) rfl rfl dX9_init_73 ?_
  refine zeq (M' := mq aC r (fun _ => 0) (fun _ _ => 0) R 9) (mq_step rfl rfl) ?_
  refine zsz (sz' := r + (9 + 1)) rfl (zcs (k := 9) (n := 348) rfl rfl ?_)
  refine zz (fun _ _ => lv_aload_n hx hb dX9_init_76 rfl (lv_at hl 0 rfl)) ?_
  refine zz (fun _ _ => lv_bipush (v := 12) hx hb dX9_init_77 (by decide)) ?_
  refine z_newi (N' := 12) C (by decide) (by decide) (by decide) (by decide) (by decide) dX9_init_79 ?_
  refine z_put C fp_X9_38 (fun _ => hnm) ((zup_ne _ _ (by omega)).trans (mq_r _ _ _ _ _ 9)) (Nat.le_of_ble_eq_true rfl) rfl rfl dX9_init_81 ?_
  refine zeq (M' := mq aC r (fun _ => 0) (fun _ _ => 0) R 10) (mq_step rfl rfl) ?_
  refine zsz (sz' := r + (10 + 1)) rfl (zcs (k := 10) (n := 360) rfl rfl ?_)
  refine zz (fun _ _ => lv_aload_n hx hb dX9_init_84 rfl (lv_at hl 0 rfl)) ?_
  refine zz (fun _ _ => lv_bipush (v := 48) hx hb dX9_init_85 (by decide)) ?_
  refine z_newi (N' := 48) C (by decide) (by decide) (by decide) (by decide) (by decide) dX9_init_87 ?_
  refine z_put C fp_X9_41 (fun _ => hnm) ((zup_ne _ _ (by omega)).trans (mq_r _ _ _ _ _ 10)) (Nat.le_of_ble_eq_true rfl) rfl rfl dX9_init_89 ?_
  refine zeq (M' := mq aC r (fun _ => 0) (fun _ _ => 0) R 11) (mq_step rfl rfl) ?_
  refine zsz (sz' := r + (11 + 1)) rfl (zcs (k := 11) (n := 408) rfl rfl ?_)
  refine zz (fun _ _ => lv_aload_n hx hb dX9_init_92 rfl (lv_at hl 0 rfl)) ?_
  refine zz (fun _ _ => lv_bipush (v := 48) hx hb dX9_init_93 (by decide)) ?_
  refine z_newi (N' := 48) C (by decide) (by decide) (by decide) (by decide) (by decide) dX9_init_95 ?_
  refine z_put C fp_X9_44 (fun _ => hnm) ((zup_ne _ _ (by omega)).trans (mq_r _ _ _ _ _ 11)) (Nat.le_of_ble_eq_true rfl) rfl rfl dX9_init_97 ?_
  refine zeq (M' := mq aC r (fun _ => 0) (fun _ _ => 0) R 12) (mq_step rfl rfl) ?_
  refine zsz (sz' := r + (12 + 1)) rfl (zcs (k := 12) (n := 456) rfl rfl ?_)
  refine zz (fun _ _ => lv_aload_n hx hb dX9_init_100 rfl (lv_at hl 0 rfl)) ?_
  refine zz (fun _ _ => lv_bipush (v := 48) hx hb dX9_init_101 (by decide)) ?_
  refine z_newi (N' := 48) C (by decide) (by decide) (by decide) (by decide) (by decide) dX9_init_103 ?_
  refine z_put C fp_X9_47 (fun _ => hnm) ((zup_ne _ _ (by omega)).trans (mq_r _ _ _ _ _ 12)) (Nat.le_of_ble_eq_true rfl) rfl rfl dX9_init_105 ?_
  refine zeq (M' := mq aC r (fun _ => 0) (fun _ _ => 0) R 13) (mq_step rfl rfl) ?_
  refine zsz (sz' := r + (13 + 1)) rfl (zcs (k := 13) (n := 504) rfl rfl ?_)
  refine zz (fun _ _ => lv_aload_n hx hb dX9_init_108 rfl (lv_at hl 0 rfl)) ?_
  refine zz (fun _ _ => lv_iconst (v := 4) hx hb dX9_init_109 (by decide)) ?_
  refine z_newi (N' := 4) C (by decide) (by decide) (by decide) (by decide) (by decide) dX9_init_110 ?_
  refine z_put C fp_X9_50 (fun _ => hnm) ((zup_ne _ _ (by omega)).trans (mq_r _ _ _ _ _ 13)) (Nat.le_of_ble_eq_true rfl) rfl rfl dX9_init_112 ?_
  refine zeq (M' := mq aC r (fun _ => 0) (fun _ _ => 0) R 14) (mq_step rfl rfl) ?_
  refine zsz (sz' := r + (14 + 1)) rfl (zcs (k := 14) (n := 508) rfl rfl ?_)
  refine zz (fun _ _ => lv_aload_n hx hb dX9_init_115 rfl (lv_at hl 0 rfl)) ?_
  refine zz (fun _ _ => lv_bipush (v := 40) hx hb dX9_init_116 (by decide)) ?_
  refine z_newi (N' := 40) C (by decide) (by decide) (by decide) (by decide) (by decide) dX9_init_118 ?_
  refine z_put C fp_X9_53 (fun _ => hnm) ((zup_ne _ _ (by omega)).trans (mq_r _ _ _ _ _ 14)) (Nat.le_of_ble_eq_true rfl) rfl rfl dX9_init_120 ?_
  refine zeq (M' := mq aC r (fun _ => 0) (fun _ _ => 0) R 15) (mq_step rfl rfl) ?_
  refine zsz (sz' := r + (15 + 1)) rfl (zcs (k := 15) (n := 548) rfl rfl ?_)
  refine zz (fun _ _ => lv_aload_n hx hb dX9_init_123 rfl (lv_at hl 0 rfl)) ?_
  refine zz (fun _ _ => lv_bipush (v := 40) hx hb dX9_init_124 (by decide)) ?_
  refine z_newi (N' := 40) C (by decide) (by decide) (by decide) (by decide) (by decide) dX9_init_126 ?_
  refine z_put C fp_X9_56 (fun _ => hnm) ((zup_ne _ _ (by omega)).trans (mq_r _ _ _ _ _ 15)) (Nat.le_of_ble_eq_true rfl) rfl rfl dX9_init_128 ?_
  refine zeq (M' := mq aC r (fun _ => 0) (fun _ _ => 0) R 16) (mq_step rfl rfl) ?_
  refine zsz (sz' := r + (16 + 1)) rfl (zcs (k := 16) (n := 588) rfl rfl ?_)
  refine zz (fun _ _ => lv_aload_n hx hb dX9_init_131 rfl (lv_at hl 0 rfl)) ?_
  refine zz (fun _ _ => lv_bipush (v := 40) hx hb dX9_init_132 (by decide)) ?_
  refine z_newi (N' := 40) C (by decide) (by decide) (by decide) (by decide) (by decide) dX9_init_134 ?_
  refine z_put C fp_X9_59 (fun _ => hnm) ((zup_ne _ _ (by omega)).trans (mq_r _ _ _ _ _ 16)) (Nat.le_of_ble_eq_true rfl) rfl rfl dX9_init_136 ?_
  refine zeq (M' := mq aC r (fun _ => 0) (fun _ _ => 0) R 17) (mq_step rfl rfl) ?_
  refine zsz (sz' := r + (17 + 1)) rfl (zcs (k := 17) (n := 628) rfl rfl ?_)
  refine zz (fun _ _ => lv_aload_n hx hb dX9_init_139 rfl (lv_at hl 0 rfl)) ?_
  refine zz (fun _ _ => lv_iconst (v := 4) hx hb dX9_init_140 (by decide)) ?_
  refine z_newz (N' := 4) C (by decide) (by decide) (by decide) (by decide) (by decide) dX9_init_141 ?_
  refine z_put C fp_X9_62 (fun _ => hnm) ((zup_ne _ _ (by omega)).trans (mq_r _ _ _ _ _ 17)) (Nat.le_of_ble_eq_true rfl) rfl rfl dX9_init_143 ?_
  refine zeq (M' := mq aC r (fun _ => 0) (fun _ _ => 0) R 18) (mq_step rfl rfl) ?_
  refine zsz (sz' := r + (18 + 1)) rfl (zcs (k := 18) (n := 632) rfl rfl ?_)
  refine zz (fun _ _ => lv_aload_n hx hb dX9_init_146 rfl (lv_at hl 0 rfl)) ?_
  refine zz (fun _ _ => lv_bipush (v := 120) hx hb dX9_init_147 (by decide)) ?_
  refine z_newi (N' := 120) C (by decide) (by decide) (by decide) (by decide) (by decide) dX9_init_149 ?_
  refine z_put C fp_X9_65 (fun _ => hnm) ((zup_ne _ _ (by omega)).trans (mq_r _ _ _ _ _ 18)) (Nat.le_of_ble_eq_true rfl) rfl rfl dX9_init_151 ?_
  refine zeq (M' := mq aC r (fun _ => 0) (fun _ _ => 0) R 19) (mq_step rfl rfl) ?_
  refine zsz (sz' := r + (19 + 1)) rfl (zcs (k := 19) (n := 752) rfl rfl ?_)
  refine zz (fun _ _ => lv_aload_n hx hb dX9_init_154 rfl (lv_at hl 0 rfl)) ?_
  refine zz (fun _ _ => lv_bipush (v := 120) hx hb dX9_init_155 (by decide)) ?_
  refine z_newi (N' := 120) C (by decide) (by decide) (by decide) (by decide) (by decide) dX9_init_157 ?_
  refine z_put C fp_X9_68 (fun _ => hnm) ((zup_ne _ _ (by omega)).trans (mq_r _ _ _ _ _ 19)) (Nat.le_of_ble_eq_true rfl) rfl rfl dX9_init_159 ?_
  refine zeq (M' := mq aC r (fun _ => 0) (fun _ _ => 0) R 20) (mq_step rfl rfl) ?_
  refine zsz (sz' := r + (20 + 1)) rfl (zcs (k := 20) (n := 872) rfl rfl ?_)
  refine zz (fun _ _ => lv_aload_n hx hb dX9_init_162 rfl (lv_at hl 0 rfl)) ?_
  refine zz (fun _ _ => lv_bipush (v := 120) hx hb dX9_init_163 (by decide)) ?_
  refine z_newi (N' := 120) C (by decide) (by decide) (by decide) (by decide) (by decide) dX9_init_165 ?_
  refine z_put C fp_X9_71 (fun _ => hnm) ((zup_ne _ _ (by omega)).trans (mq_r _ _ _ _ _ 20)) (Nat.le_of_ble_eq_true rfl) rfl rfl dX9_init_167 ?_
  refine zeq (M' := mq aC r (fun _ => 0) (fun _ _ => 0) R 21) (mq_step rfl rfl) ?_
  refine zsz (sz' := r + (21 + 1)) rfl (zcs (k := 21) (n := 992) rfl rfl ?_)
  refine zz (fun _ _ => lv_aload_n hx hb dX9_init_170 rfl (lv_at hl 0 rfl)) ?_
  refine zz (fun _ _ => lv_bipush (v := 120) hx hb dX9_init_171 (by decide)) ?_
  refine z_newi (N' := 120) C (by decide) (by decide) (by decide) (by decide) (by decide) dX9_init_173 ?_
  refine z_put C fp_X9_74 (fun _ => hnm) ((zup_ne _ _ (by omega)).trans (mq_r _ _ _ _ _ 21)) (Nat.le_of_ble_eq_true rfl) rfl rfl dX9_init_175 ?_
  refine zeq (M' := mq aC r (fun _ => 0) (fun _ _ => 0) R 22) (mq_step rfl rfl) ?_
  refine zsz (sz' := r + (22 + 1)) rfl (zcs (k := 22) (n := 1112) rfl rfl ?_)
  refine zz (fun _ _ => lv_aload_n hx hb dX9_init_178 rfl (lv_at hl 0 rfl)) ?_
  refine zz (fun _ _ => lv_bipush (v := 7) hx hb dX9_init_179 (by decide)) ?_
  refine z_newz (N' := 7) C (by decide) (by decide) (by decide) (by decide) (by decide) dX9_init_181 ?_
  refine z_put C fp_X9_77 (fun _ => hnm) ((zup_ne _ _ (by omega)).trans (mq_r _ _ _ _ _ 22)) (Nat.le_of_ble_eq_true rfl) rfl rfl dX9_init_183 ?_
  refine zeq (M' := mq aC r (fun _ => 0) (fun _ _ => 0) R 23) (mq_step rfl rfl) ?_
  refine zsz (sz' := r + (23 + 1)) rfl (zcs (k := 23) (n := 1119) rfl rfl ?_)
  refine zz (fun _ _ => lv_aload_n hx hb dX9_init_186 rfl (lv_at hl 0 rfl)) ?_
  refine zz (fun _ _ => lv_bipush (v := 120) hx hb dX9_init_187 (by decide)) ?_
  refine z_newi (N' := 120) C (by decide) (by decide) (by decide) (by decide) (by decide) dX9_init_189 ?_
  refine z_put C fp_X9_80 (fun _ => hnm) ((zup_ne _ _ (by omega)).trans (mq_r _ _ _ _ _ 23)) (Nat.le_of_ble_eq_true rfl) rfl rfl dX9_init_191 ?_
  refine zeq (M' := mq aC r (fun _ => 0) (fun _ _ => 0) R 24) (mq_step rfl rfl) ?_
  refine zsz (sz' := r + (24 + 1)) rfl (zcs (k := 24) (n := 1239) rfl rfl ?_)
  refine zz (fun _ _ => lv_aload_n hx hb dX9_init_194 rfl (lv_at hl 0 rfl)) ?_
  refine zz (fun _ _ => lv_bipush (v := 120) hx hb dX9_init_195 (by decide)) ?_
  refine z_newi (N' := 120) C (by decide) (by decide) (by decide) (by decide) (by decide) dX9_init_197 ?_
  refine z_put C fp_X9_83 (fun _ => hnm) ((zup_ne _ _ (by omega)).trans (mq_r _ _ _ _ _ 24)) (Nat.le_of_ble_eq_true rfl) rfl rfl dX9_init_199 ?_
  refine zeq (M' := mq aC r (fun _ => 0) (fun _ _ => 0) R 25) (mq_step rfl rfl) ?_
  refine zsz (sz' := r + (25 + 1)) rfl (zcs (k := 25) (n := 1359) rfl rfl ?_)
  refine zz (fun _ _ => lv_aload_n hx hb dX9_init_202 rfl (lv_at hl 0 rfl)) ?_
  refine zz (fun _ _ => lv_bipush (v := 120) hx hb dX9_init_203 (by decide)) ?_
  refine z_newi (N' := 120) C (by decide) (by decide) (by decide) (by decide) (by decide) dX9_init_205 ?_
  refine z_put C fp_X9_86 (fun _ => hnm) ((zup_ne _ _ (by omega)).trans (mq_r _ _ _ _ _ 25)) (Nat.le_of_ble_eq_true rfl) rfl rfl dX9_init_207 ?_
  refine zeq (M' := mq aC r (fun _ => 0) (fun _ _ => 0) R 26) (mq_step rfl rfl) ?_
  refine zsz (sz' := r + (26 + 1)) rfl (zcs (k := 26) (n := 1479) rfl rfl ?_)
  refine zz (fun _ _ => lv_aload_n hx hb dX9_init_210 rfl (lv_at hl 0 rfl)) ?_
  refine zz (fun _ _ => lv_bipush (v := 120) hx hb dX9_init_211 (by decide)) ?_
  refine z_newi (N' := 120) C (by decide) (by decide) (by decide) (by decide) (by decide) dX9_init_213 ?_
  refine z_put C fp_X9_89 (fun _ => hnm) ((zup_ne _ _ (by omega)).trans (mq_r _ _ _ _ _ 26)) (Nat.le_of_ble_eq_true rfl) rfl rfl dX9_init_215 ?_
  refine zeq (M' := mq aC r (fun _ => 0) (fun _ _ => 0) R 27) (mq_step rfl rfl) ?_
  refine zsz (sz' := r + (27 + 1)) rfl (zcs (k := 27) (n := 1599) rfl rfl ?_)
  refine zz (fun _ _ => lv_aload_n hx hb dX9_init_218 rfl (lv_at hl 0 rfl)) ?_
  refine zz (fun _ _ => lv_bipush (v := 7) hx hb dX9_init_219 (by decide)) ?_
  refine z_newz (N' := 7) C (by decide) (by decide) (by decide) (by decide) (by decide) dX9_init_221 ?_
  refine z_put C fp_X9_92 (fun _ => hnm) ((zup_ne _ _ (by omega)).trans (mq_r _ _ _ _ _ 27)) (Nat.le_of_ble_eq_true rfl) rfl rfl dX9_init_223 ?_
  refine zeq (M' := mq aC r (fun _ => 0) (fun _ _ => 0) R 28) (mq_step rfl rfl) ?_
  refine zsz (sz' := r + (28 + 1)) rfl (zcs (k := 28) (n := 1606) rfl rfl ?_)
  refine zz (fun _ _ => lv_aload_n hx hb dX9_init_226 rfl (lv_at hl 0 rfl)) ?_
  refine zz (fun _ _ => lv_sipush (v := 240) hx hb dX9_init_227 (by decide)) ?_
  refine z_newi (N' := 240) C (by decide) (by decide) (by decide) (by decide) (by decide) dX9_init_230 ?_
  refine z_put C fp_X9_95 (fun _ => hnm) ((zup_ne _ _ (by omega)).trans (mq_r _ _ _ _ _ 28)) (Nat.le_of_ble_eq_true rfl) rfl rfl dX9_init_232 ?_
  refine zeq (M' := mq aC r (fun _ => 0) (fun _ _ => 0) R 29) (mq_step rfl rfl) ?_
  refine zsz (sz' := r + (29 + 1)) rfl (zcs (k := 29) (n := 1846) rfl rfl ?_)
  refine zz (fun _ _ => lv_aload_n hx hb dX9_init_235 rfl (lv_at hl 0 rfl)) ?_
  refine zz (fun _ _ => lv_sipush (v := 240) hx hb dX9_init_236 (by decide)) ?_
  refine z_newi (N' := 240) C (by decide) (by decide) (by decide) (by decide) (by decide) dX9_init_239 ?_
  refine z_put C fp_X9_98 (fun _ => hnm) ((zup_ne _ _ (by omega)).trans (mq_r _ _ _ _ _ 29)) (Nat.le_of_ble_eq_true rfl) rfl rfl dX9_init_241 ?_
  refine zeq (M' := mq aC r (fun _ => 0) (fun _ _ => 0) R 30) (mq_step rfl rfl) ?_
  refine zsz (sz' := r + (30 + 1)) rfl (zcs (k := 30) (n := 2086) rfl rfl ?_)
  refine zz (fun _ _ => lv_aload_n hx hb dX9_init_244 rfl (lv_at hl 0 rfl)) ?_
  refine zz (fun _ _ => lv_sipush (v := 240) hx hb dX9_init_245 (by decide)) ?_
  refine z_newi (N' := 240) C (by decide) (by decide) (by decide) (by decide) (by decide) dX9_init_248 ?_
  refine z_put C fp_X9_101 (fun _ => hnm) ((zup_ne _ _ (by omega)).trans (mq_r _ _ _ _ _ 30)) (Nat.le_of_ble_eq_true rfl) rfl rfl dX9_init_250 ?_
  refine zeq (M' := mq aC r (fun _ => 0) (fun _ _ => 0) R 31) (mq_step rfl rfl) ?_
  refine zsz (sz' := r + (31 + 1)) rfl (zcs (k := 31) (n := 2326) rfl rfl ?_)
  refine zz (fun _ _ => lv_aload_n hx hb dX9_init_253 rfl (lv_at hl 0 rfl)) ?_
  refine zz (fun _ _ => lv_sipush (v := 240) hx hb dX9_init_254 (by decide)) ?_
  refine z_newi (N' := 240) C (by decide) (by decide) (by decide) (by decide) (by decide) dX9_init_257 ?_
  refine z_put C fp_X9_104 (fun _ => hnm) ((zup_ne _ _ (by omega)).trans (mq_r _ _ _ _ _ 31)) (Nat.le_of_ble_eq_true rfl) rfl rfl dX9_init_259 ?_
  refine zeq (M' := mq aC r (fun _ => 0) (fun _ _ => 0) R 32) (mq_step rfl rfl) ?_
  refine zsz (sz' := r + (32 + 1)) rfl (zcs (k := 32) (n := 2566) rfl rfl ?_)
  refine zz (fun _ _ => lv_aload_n hx hb dX9_init_262 rfl (lv_at hl 0 rfl)) ?_
  refine zz (fun _ _ => lv_sipush (v := 240) hx hb dX9_init_263 (by decide)) ?_
  refine z_newz (N' := 240) C (by decide) (by decide) (by decide) (by decide) (by decide) dX9_init_266 ?_
  refine z_put C fp_X9_107 (fun _ => hnm) ((zup_ne _ _ (by omega)).trans (mq_r _ _ _ _ _ 32)) (Nat.le_of_ble_eq_true rfl) rfl rfl dX9_init_268 ?_
  refine zeq (M' := mq aC r (fun _ => 0) (fun _ _ => 0) R 33) (mq_step rfl rfl) ?_
  refine zsz (sz' := r + (33 + 1)) rfl (zcs (k := 33) (n := 2806) rfl rfl ?_)
  refine zz (fun _ _ => lv_aload_n hx hb dX9_init_271 rfl (lv_at hl 0 rfl)) ?_
  refine zz (fun _ _ => lv_bipush (v := 12) hx hb dX9_init_272 (by decide)) ?_
  refine z_newi (N' := 12) C (by decide) (by decide) (by decide) (by decide) (by decide) dX9_init_274 ?_
  refine z_put C fp_X9_110 (fun _ => hnm) ((zup_ne _ _ (by omega)).trans (mq_r _ _ _ _ _ 33)) (Nat.le_of_ble_eq_true rfl) rfl rfl dX9_init_276 ?_
  refine zeq (M' := mq aC r (fun _ => 0) (fun _ _ => 0) R 34) (mq_step rfl rfl) ?_
  refine zsz (sz' := r + (34 + 1)) rfl (zcs (k := 34) (n := 2818) rfl rfl ?_)
  refine zz (fun _ _ => lv_aload_n hx hb dX9_init_279 rfl (lv_at hl 0 rfl)) ?_
  refine zz (fun _ _ => lv_iconst (v := (-1)) hx hb dX9_init_280 (by decide)) ?_
  refine z_put C fp_X9_113 (fun h => by cases h) (mq_r _ _ _ _ _ 34) (Nat.le_of_ble_eq_true rfl) rfl rfl dX9_init_281 ?_
  refine zeq (M' := mq aC r (upd (fun _ => 0) 42 (-1)) (fun _ _ => 0) R 34) (mq_v rfl) ?_
  refine zz (fun _ _ => lv_aload_n hx hb dX9_init_284 rfl (lv_at hl 0 rfl)) ?_
  refine zz (fun _ _ => lv_sipush (v := 20400) hx hb dX9_init_285 (by decide)) ?_
  refine z_newi (N' := 20400) C (by decide) (by decide) (by decide) (by decide) (by decide) dX9_init_288 ?_
  refine z_put C fp_X9_117 (fun _ => hnm) ((zup_ne _ _ (by omega)).trans (mq_r _ _ _ _ _ 34)) (Nat.le_of_ble_eq_true rfl) rfl rfl dX9_init_290 ?_
  refine zeq (M' := mq aC r (upd (fun _ => 0) 42 (-1)) (fun _ _ => 0) R 35) (mq_step rfl rfl) ?_
  refine zsz (sz' := r + (35 + 1)) rfl (zcs (k := 35) (n := 23218) rfl rfl ?_)
  refine zz (fun _ _ => lv_aload_n hx hb dX9_init_293 rfl (lv_at hl 0 rfl)) ?_
  refine zz (fun _ _ => lv_sipush (v := 20400) hx hb dX9_init_294 (by decide)) ?_
  refine z_newi (N' := 20400) C (by decide) (by decide) (by decide) (by decide) (by decide) dX9_init_297 ?_
  refine z_put C fp_X9_120 (fun _ => hnm) ((zup_ne _ _ (by omega)).trans (mq_r _ _ _ _ _ 35)) (Nat.le_of_ble_eq_true rfl) rfl rfl dX9_init_299 ?_
  refine zeq (M' := mq aC r (upd (fun _ => 0) 42 (-1)) (fun _ _ => 0) R 36) (mq_step rfl rfl) ?_
  refine zsz (sz' := r + (36 + 1)) rfl (zcs (k := 36) (n := 43618) rfl rfl ?_)
  refine zz (fun _ _ => lv_aload_n hx hb dX9_init_302 rfl (lv_at hl 0 rfl)) ?_
  refine zz (fun _ _ => lv_bipush (v := 120) hx hb dX9_init_303 (by decide)) ?_
  refine z_newi (N' := 120) C (by decide) (by decide) (by decide) (by decide) (by decide) dX9_init_305 ?_
  refine z_put C fp_X9_123 (fun _ => hnm) ((zup_ne _ _ (by omega)).trans (mq_r _ _ _ _ _ 36)) (Nat.le_of_ble_eq_true rfl) rfl rfl dX9_init_307 ?_
  refine zeq (M' := mq aC r (upd (fun _ => 0) 42 (-1)) (fun _ _ => 0) R 37) (mq_step rfl rfl) ?_
  refine zsz (sz' := r + (37 + 1)) rfl (zcs (k := 37) (n := 43738) rfl rfl ?_)
  refine zz (fun _ _ => lv_aload_n hx hb dX9_init_310 rfl (lv_at hl 0 rfl)) ?_
  refine zz (fun _ _ => lv_iconst (v := 4) hx hb dX9_init_311 (by decide)) ?_
  refine z_newi (N' := 4) C (by decide) (by decide) (by decide) (by decide) (by decide) dX9_init_312 ?_
  refine z_put C fp_X9_126 (fun _ => hnm) ((zup_ne _ _ (by omega)).trans (mq_r _ _ _ _ _ 37)) (Nat.le_of_ble_eq_true rfl) rfl rfl dX9_init_314 ?_
  refine zeq (M' := mq aC r (upd (fun _ => 0) 42 (-1)) (fun _ _ => 0) R 38) (mq_step rfl rfl) ?_
  refine zsz (sz' := r + (38 + 1)) rfl (zcs (k := 38) (n := 43742) rfl rfl ?_)
  refine zeq mq_full ?_
  refine zz (fun _ _ => lv_aload_n hx hb dX9_init_317 rfl (lv_at hl 0 rfl)) ?_
  refine z_get (v := .ref (r + 23)) C fd_X9_77 rm_0 rfl dX9_init_318 ?_
  refine zz (fun _ _ => lv_iconst (v := 0) hx hb dX9_init_321 (by decide)) ?_
  refine zz (fun _ _ => lv_iconst (v := 1) hx hb dX9_init_322 (by decide)) ?_
  refine z_zast (f := (fun _ _ => 0) 23) C rm_23 (in_nI (j := 0) rfl (by decide) (by decide)) rfl dX9_init_323 ?_
  refine zeq wm_23 ?_
  refine zz (fun _ _ => lv_iconst (v := 0) hx hb dX9_init_324 (by decide)) ?_
  refine zs (fun _ _ => lv_istore_n (lv' := [(1, .int (0)), (0, .ref (r))]) hx hb dX9_init_325 rfl hl (by decide) rfl) (fun ls hl => ?_)
  refine zeq (M' := (mm aC r (upd (fun _ => 0) 42 (-1)) (u1 (u1 (fun _ _ => 0) 23 (upd ((fun _ _ => 0) 23) (Int32.toNatClampNeg (0)) (1))) 34 ((fun _ _ => 0) 34)) R)) (by rw [u1_id2 (A := (u1 (fun _ _ => 0) 23 (upd ((fun _ _ => 0) 23) (Int32.toNatClampNeg (0)) (1)))) (k := 34) (g := (fun _ _ => 0) 34) rfl]) ?_
  refine lpX9_init_326 (v := (upd (fun _ => 0) 42 (-1))) (A := (u1 (fun _ _ => 0) 23 (upd ((fun _ _ => 0) 23) (Int32.toNatClampNeg (0)) (1)))) (N_ := 12) C rfl (by decide) (by decide) 12 0 (Nat.zero_add _) _ (lv_sub hl [1, 0] rfl) (fun ls hl => ?_)
  exact z_vret C hr hlk dX9_init_345 ⟨rfl, rfl, rfl⟩
