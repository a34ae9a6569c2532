def rk_kt : List rk_KD := [(0, 0, 0, [(0, -2147483648, 2147483647), (0, -2147483648, 2147483647), (0, -2147483648, 2147483647)]),
  (0, 1, 0, [(2, 7, 0), (2, 0, 0), (2, 29, 0), (2, 4, 0), (0, 0, 1), (1, 0, 0), (0, -2147483648, 2147483647), (0, -2147483648, 2147483647)]),
  (0, 2, 0, [(2, 13, 0), (0, 0, 6), (0, 0, 1), (0, -2147483648, 2147483647), (0, -1, 7), (0, -1, 7), (0, -2147483648, 2147483647)]),
  (0, 3, 0, [(2, 16, 0), (2, 16, 0), (2, 16, 0), (1, 0, 0)]),
  (0, 4, 0, [(2, 15, 0), (1, 0, 0), (0, 0, 1), (0, -2147483648, 2147483647)]),
  (0, 5, 0, [(2, 17, 0), (2, 0, 0), (0, 1, 8), (0, -2147483648, 2147483647), (0, -2147483648, 2147483647), (0, -2147483648, 2147483647), (0, -2147483648, 2147483647), (0, -2147483648, 2147483647), (0, -2147483648, 2147483647), (0, -2147483648, 2147483647)]),
  (0, 6, 0, [(2, 14, 0), (0, 0, 24), (0, 0, 25)]),
  (0, 6, 0, [(2, 18, 0), (0, 0, 119), (0, 0, 120)]),
  (0, 7, 0, [(2, 6, 0), (0, -2147483648, 2147483647), (0, -2147483648, 2147483647), (0, -2147483648, 2147483647), (0, -2147483648, 2147483647), (0, 0, 1), (0, 0, 1), (0, -2147483648, 2147483647), (0, -2147483648, 2147483647), (0, -2147483648, 2147483647), (0, -2147483648, 2147483647), (0, 0, 1), (0, 0, 1), (0, 0, 1), (0, 0, 1), (0, -2147483648, 2147483647), (0, -2147483648, 2147483647), (0, -2147483648, 2147483647), (0, -2147483648, 2147483647), (0, -2147483648, 2147483647)]),
  (0, 8, 0, [(2, 20, 0), (0, 0, 400), (0, -2147483648, 2147483647), (0, -2147483648, 2147483647), (0, 0, 400), (2, 22, 0), (2, 19, 0)]),
  (0, 9, 0, [(2, 25, 0), (2, 26, 0), (2, 27, 0), (2, 28, 0), (2, 3, 0), (2, 21, 0), (0, -2147483648, 2147483647), (0, -2147483648, 2147483647), (0, -2147483648, 2147483647), (0, -2147483648, 2147483647)]),
  (0, 10, 0, [(2, 10, 0), (2, 9, 0), (3, 10, 0), (3, 10, 0)]),
  (0, 11, 0, [(0, -2147483648, 2147483647), (2, 24, 0), (2, 30, 0), (2, 32, 0), (0, 0, 400), (0, -2147483648, 2147483647), (0, -2147483648, 2147483647), (0, 0, 400), (0, 0, 400), (0, 0, 1), (2, 33, 0), (0, 0, 1), (2, 31, 0)]),
  (1, 6, 0, []),
  (1, 25, 0, []),
  (1, 40, 0, []),
  (1, 60, 0, []),
  (1, 64, 0, []),
  (1, 120, 0, []),
  (1, 256, 0, []),
  (1, 400, 0, []),
  (1, 5, 0, []),
  (1, 40, 0, []),
  (1, 4, 0, []),
  (1, 6466, 0, []),
  (2, 40, 1, []),
  (2, 32, 2, []),
  (2, 4, 3, []),
  (2, 8, 4, []),
  (2, 6, 5, []),
  (1, 6466, 0, []),
  (1, 6466, 0, []),
  (1, 400, 0, []),
  (1, 4, 0, [])]
def rk_K (k : Nat) : rk_KD := if Nat.ble 1000 k && Nat.ble k 1004 then (9, 0, 0, []) else rk_kt.getD k (8, 0, 0, [])
def rk_et : List (Option rk_AV) := [none, none, none, none, none, none, none, none, none, none, none, none, none, some (0, -2147483648, 2147483647), some (0, -2147483648, 2147483647), some (0, -2147483648, 2147483647), some (0, -2147483648, 2147483647), some (0, -2147483648, 2147483647), some (0, -2147483648, 2147483647), some (0, -2147483648, 2147483647), some (0, -2147483648, 2147483647), some (0, -2147483648, 2147483647), some (0, -1, 39), some (0, -2147483648, 2147483647), none, some (2, 8, 0), some (2, 2, 0), some (2, 5, 0), some (2, 1, 0), some (2, 4, 0), none, none, some (0, 0, 255), some (0, 0, 99)]
def rm_mS : List rk_AV := [(0, 0, 40), (0, 0, 1), (0, 0, 1), (0, 0, 5), (0, -2147483648, 2147483647), (0, -2147483648, 2147483647), (0, 0, 24), (0, -2147483648, 2147483647), (0, 0, 1), (0, 0, 1), (0, 0, 324), (0, 0, 1), (0, 0, 64), (0, 0, 1), (0, 0, 1), (0, -2147483648, 2147483647), (0, -2147483648, 2147483647), (0, -2147483648, 2147483647), (0, -2147483648, 2147483647), (0, -2147483648, 2147483647), (0, 0, 25), (0, 0, 2), (0, 0, 31), (0, -2147483648, 2147483647), (1, 0, 0), (0, 0, 1), (0, 0, 257), (0, 0, 257), (0, 0, 257), (0, 0, 257), (0, 0, 257), (0, 0, 257), (0, 0, 257), (0, 0, 257), (0, 0, 257), (0, 0, 257), (0, 0, 257), (0, 0, 257), (0, 0, 257), (0, 0, 257), (0, 0, 257), (0, 0, 257), (0, 0, 257), (0, 0, 257), (0, 0, 257), (0, 0, 257), (0, 0, 257), (0, 0, 257), (0, 0, 257), (0, 0, 257), (0, 0, 257), (0, 0, 257), (0, 0, 257), (0, 0, 257), (0, 0, 257), (0, 0, 257), (0, 0, 257), (0, 0, 257), (0, 0, 257), (0, 0, 257), (0, 0, 257), (0, 0, 257), (0, 0, 257), (0, 0, 257)]
def rm_mR : List rk_AV := [(0, 0, 7), (0, 0, 63), (0, -2147483648, 2147483647), (0, -2147483648, 2147483647), (0, -2147483648, 2147483647), (0, -2147483648, 2147483647), (0, -2147483648, 2147483647), (0, -2147483648, 2147483647), (0, -2147483648, 2147483647), (0, -2147483648, 2147483647), (0, -2147483648, 2147483647), (0, 0, 510), (0, 0, 510), (0, 0, 510), (0, 0, 510), (0, 0, 510), (0, 0, 510), (0, 0, 510), (0, 0, 510), (0, 0, 510), (0, 0, 510), (0, 0, 510), (0, 0, 510), (0, 0, 510), (0, 0, 510), (0, 0, 510), (0, 0, 510), (0, 0, 510), (0, 0, 510), (0, 0, 510), (0, 0, 510), (0, 0, 510), (0, 0, 510), (0, 0, 510), (0, 0, 510), (0, 0, 510), (0, 0, 510), (0, 0, 510), (0, 0, 510), (0, 0, 510), (0, 0, 510), (0, 0, 510), (0, 0, 510), (0, 0, 510), (0, 0, 510), (0, 0, 510), (0, 0, 510), (0, 0, 510), (0, 0, 510), (0, 0, 510), (0, 0, 510), (0, 0, 510), (0, 0, 510), (0, 0, 510), (0, 0, 510), (0, 0, 510), (0, 0, 510), (0, 0, 510), (0, 0, 510), (0, 0, 510), (0, 0, 510), (0, 0, 510), (0, 0, 510), (0, 0, 510), (0, 0, 510), (0, 0, 510), (0, 0, 510), (0, 0, 510), (0, 0, 510), (0, 0, 510), (0, 0, 510), (0, 0, 510), (0, 0, 510), (0, 0, 510), (0, 0, 510)]
def rm_mD : List rk_AV := [(0, 0, 1), (0, 0, 63), (0, -2147483648, 2147483647), (0, -2147483648, 2147483647), (1, 0, 0), (0, -2147483648, 2147483647), (1, 0, 0), (0, -2147483648, 2147483647), (0, 0, 120), (0, 0, 257), (0, 0, 257), (0, 0, 257), (0, 0, 257), (0, 0, 257), (0, 0, 257), (0, 0, 257), (0, 0, 257), (0, 0, 257), (0, 0, 257), (0, 0, 257), (0, 0, 257), (0, 0, 257), (0, 0, 257), (0, 0, 257), (0, 0, 257), (0, 0, 257), (0, 0, 257), (0, 0, 257), (0, 0, 257), (0, 0, 257), (0, 0, 257), (0, 0, 257), (0, 0, 257), (0, 0, 257), (0, 0, 257), (0, 0, 257), (0, 0, 257), (0, 0, 257), (0, 0, 257), (0, 0, 257), (0, 0, 257), (0, 0, 257), (0, 0, 257), (0, 0, 257), (0, 0, 257), (0, 0, 257), (0, 0, 257), (0, 0, 257), (0, 0, 257), (0, 0, 257), (0, 0, 257), (0, 0, 257), (0, 0, 257), (0, 0, 257), (0, 0, 257), (0, 0, 257), (0, 0, 257), (0, 0, 257), (0, 0, 257), (0, 0, 257), (0, 0, 257), (0, 0, 257), (0, 0, 257), (0, 0, 257), (0, 0, 257), (0, 0, 257), (0, 0, 257), (0, 0, 257), (0, 0, 257), (0, 0, 257), (0, 0, 257), (0, 0, 257), (0, 0, 257), (0, 0, 257), (0, 0, 257), (0, 0, 257), (0, 0, 257), (0, 0, 257), (0, 0, 257), (0, 0, 257), (0, 0, 257), (0, 0, 257), (0, 0, 257), (0, 0, 257), (0, 0, 257), (0, 0, 257), (0, 0, 257), (0, 0, 257), (0, 0, 257), (0, 0, 257), (0, 0, 257), (0, 0, 257), (0, 0, 257), (0, 0, 257), (0, 0, 257), (0, 0, 257), (0, 0, 257), (0, 0, 257), (0, 0, 257), (0, 0, 257), (0, 0, 257), (0, 0, 257), (0, 0, 257), (0, 0, 257), (0, 0, 257), (0, 0, 257), (0, 0, 257), (0, 0, 257), (0, 0, 257), (0, 0, 257), (0, 0, 257), (0, 0, 257), (0, 0, 257), (0, 0, 257), (0, 0, 257), (0, 0, 257), (0, 0, 257), (0, 0, 257), (0, 0, 257), (0, 0, 257), (0, 0, 257), (0, 0, 257), (0, 0, 257), (0, 0, 257), (0, 0, 257), (0, 0, 257), (0, 0, 257), (0, 0, 257), (0, 0, 257), (0, 0, 257), (0, 0, 257), (0, 0, 257), (0, 0, 257), (0, 0, 257), (0, 0, 257), (0, 0, 257), (0, 0, 257), (0, 0, 257), (0, 0, 257), (0, 0, 257), (0, 0, 257), (0, 0, 257), (0, 0, 257), (0, 0, 257), (0, 0, 257), (0, 0, 257), (0, 0, 257), (0, 0, 257), (0, 0, 257), (0, 0, 257), (0, 0, 257), (0, 0, 257), (0, 0, 257), (0, 0, 257), (0, 0, 257), (0, 0, 257), (0, 0, 257), (0, 0, 257), (0, 0, 257), (0, 0, 257), (0, 0, 257), (0, 0, 257), (0, 0, 257), (0, 0, 257), (0, 0, 257), (0, 0, 257), (0, 0, 257), (0, 0, 257), (0, 0, 257), (0, -2147483648, 2147483647), (0, -2147483648, 2147483647), (0, -2147483648, 2147483647), (0, -2147483648, 2147483647), (0, -2147483648, 2147483647), (0, -2147483648, 2147483647), (0, -2147483648, 2147483647), (0, -2147483648, 2147483647), (0, -2147483648, 2147483647), (0, -2147483648, 2147483647), (0, -2147483648, 2147483647), (0, -2147483648, 2147483647), (0, -2147483648, 2147483647), (0, -2147483648, 2147483647), (0, -2147483648, 2147483647), (0, -2147483648, 2147483647), (0, -2147483648, 2147483647), (0, -2147483648, 2147483647), (0, -2147483648, 2147483647), (0, -2147483648, 2147483647), (0, -2147483648, 2147483647), (0, -2147483648, 2147483647), (0, -2147483648, 2147483647), (0, -2147483648, 2147483647), (0, -2147483648, 2147483647), (0, -2147483648, 2147483647), (0, -2147483648, 2147483647), (0, -2147483648, 2147483647), (0, -2147483648, 2147483647), (0, -2147483648, 2147483647), (0, -2147483648, 2147483647), (0, -2147483648, 2147483647), (0, -2147483648, 2147483647), (0, -2147483648, 2147483647), (0, -2147483648, 2147483647), (0, -2147483648, 2147483647), (0, -2147483648, 2147483647), (0, -2147483648, 2147483647), (0, -2147483648, 2147483647), (0, -2147483648, 2147483647), (0, -2147483648, 2147483647), (0, -2147483648, 2147483647), (0, -2147483648, 2147483647), (0, -2147483648, 2147483647), (0, -2147483648, 2147483647), (0, -2147483648, 2147483647), (0, -2147483648, 2147483647), (0, -2147483648, 2147483647), (0, -2147483648, 2147483647), (0, -2147483648, 2147483647), (0, -2147483648, 2147483647), (0, -2147483648, 2147483647), (0, -2147483648, 2147483647), (0, -2147483648, 2147483647), (0, -2147483648, 2147483647), (0, -2147483648, 2147483647), (0, -2147483648, 2147483647), (0, -2147483648, 2147483647), (0, -2147483648, 2147483647), (0, -2147483648, 2147483647), (0, -2147483648, 2147483647), (0, -2147483648, 2147483647), (0, -2147483648, 2147483647), (0, -2147483648, 2147483647), (0, -2147483648, 2147483647), (0, -2147483648, 2147483647), (0, -2147483648, 2147483647), (0, -2147483648, 2147483647), (0, -2147483648, 2147483647), (0, -2147483648, 2147483647), (0, -2147483648, 2147483647), (0, -2147483648, 2147483647), (0, -2147483648, 2147483647), (0, -2147483648, 2147483647), (0, -2147483648, 2147483647), (0, -2147483648, 2147483647), (0, -2147483648, 2147483647), (0, -2147483648, 2147483647), (0, -2147483648, 2147483647), (0, -2147483648, 2147483647), (0, -2147483648, 2147483647), (0, -2147483648, 2147483647), (0, -2147483648, 2147483647), (0, -2147483648, 2147483647), (0, -2147483648, 2147483647), (0, -2147483648, 2147483647), (0, -2147483648, 2147483647), (0, -2147483648, 2147483647), (0, -2147483648, 2147483647), (0, -2147483648, 2147483647), (0, -2147483648, 2147483647), (0, -2147483648, 2147483647), (0, -2147483648, 2147483647), (0, -2147483648, 2147483647), (0, -2147483648, 2147483647), (0, -2147483648, 2147483647), (0, -2147483648, 2147483647), (0, -2147483648, 2147483647), (0, -2147483648, 2147483647), (0, -2147483648, 2147483647), (0, -2147483648, 2147483647), (0, -2147483648, 2147483647), (0, -2147483648, 2147483647), (0, -2147483648, 2147483647), (0, -2147483648, 2147483647), (0, -2147483648, 2147483647), (0, -2147483648, 2147483647), (0, -2147483648, 2147483647), (0, -2147483648, 2147483647), (0, -2147483648, 2147483647), (0, -2147483648, 2147483647), (0, -2147483648, 2147483647), (0, -2147483648, 2147483647), (0, -2147483648, 2147483647), (0, -2147483648, 2147483647), (0, -2147483648, 2147483647), (0, -2147483648, 2147483647), (0, -2147483648, 2147483647), (0, -2147483648, 2147483647), (0, -2147483648, 2147483647), (0, -2147483648, 2147483647), (0, -2147483648, 2147483647), (0, -2147483648, 2147483647), (0, -2147483648, 2147483647), (0, -2147483648, 2147483647), (0, -2147483648, 2147483647), (0, -2147483648, 2147483647), (0, -2147483648, 2147483647), (0, -2147483648, 2147483647), (0, -2147483648, 2147483647), (0, -2147483648, 2147483647), (0, -2147483648, 2147483647), (0, -2147483648, 2147483647), (0, -2147483648, 2147483647), (0, -2147483648, 2147483647), (0, -2147483648, 2147483647), (0, -2147483648, 2147483647), (0, -2147483648, 2147483647), (0, -2147483648, 2147483647), (0, -2147483648, 2147483647), (0, -2147483648, 2147483647), (0, -2147483648, 2147483647), (0, -2147483648, 2147483647), (0, -2147483648, 2147483647), (0, -2147483648, 2147483647), (0, -2147483648, 2147483647), (0, -2147483648, 2147483647), (0, -2147483648, 2147483647), (0, -2147483648, 2147483647), (0, -2147483648, 2147483647), (0, -2147483648, 2147483647), (0, -2147483648, 2147483647), (0, -2147483648, 2147483647), (0, -2147483648, 2147483647), (0, -2147483648, 2147483647), (0, -2147483648, 2147483647), (0, -2147483648, 2147483647), (0, -2147483648, 2147483647), (0, -2147483648, 2147483647), (0, -2147483648, 2147483647), (0, -2147483648, 2147483647), (0, -2147483648, 2147483647), (0, -2147483648, 2147483647), (0, -2147483648, 2147483647), (0, -2147483648, 2147483647), (0, -2147483648, 2147483647), (0, -2147483648, 2147483647), (0, -2147483648, 2147483647), (0, -2147483648, 2147483647), (0, -2147483648, 2147483647), (0, -2147483648, 2147483647), (0, -2147483648, 2147483647), (0, -2147483648, 2147483647), (0, -2147483648, 2147483647), (0, -2147483648, 2147483647), (0, -2147483648, 2147483647), (0, -2147483648, 2147483647), (0, -2147483648, 2147483647), (0, -2147483648, 2147483647), (0, -2147483648, 2147483647), (0, -2147483648, 2147483647), (0, -2147483648, 2147483647), (0, -2147483648, 2147483647), (0, -2147483648, 2147483647), (0, -2147483648, 2147483647), (0, -2147483648, 2147483647), (0, -2147483648, 2147483647), (0, -2147483648, 2147483647), (0, -2147483648, 2147483647), (0, -2147483648, 2147483647), (0, -2147483648, 2147483647), (0, -2147483648, 2147483647), (0, -2147483648, 2147483647), (0, -2147483648, 2147483647), (0, -2147483648, 2147483647), (0, -2147483648, 2147483647), (0, -2147483648, 2147483647), (0, -2147483648, 2147483647), (0, -2147483648, 2147483647), (0, -2147483648, 2147483647), (0, -2147483648, 2147483647), (0, -2147483648, 2147483647), (0, -2147483648, 2147483647), (0, -2147483648, 2147483647), (0, -2147483648, 2147483647), (0, -2147483648, 2147483647), (0, -2147483648, 2147483647), (0, -2147483648, 2147483647), (0, -2147483648, 2147483647), (0, -2147483648, 2147483647), (0, -2147483648, 2147483647), (0, -2147483648, 2147483647), (0, -2147483648, 2147483647), (0, -2147483648, 2147483647), (0, -2147483648, 2147483647), (0, -2147483648, 2147483647), (0, -2147483648, 2147483647), (0, -2147483648, 2147483647), (0, -2147483648, 2147483647), (0, -2147483648, 2147483647), (0, -2147483648, 2147483647), (0, -2147483648, 2147483647), (0, -2147483648, 2147483647), (0, -2147483648, 2147483647), (0, -2147483648, 2147483647), (0, -2147483648, 2147483647), (0, -2147483648, 2147483647), (0, -2147483648, 2147483647), (0, -2147483648, 2147483647), (0, -2147483648, 2147483647), (0, -2147483648, 2147483647), (0, -2147483648, 2147483647), (0, -2147483648, 2147483647), (0, -2147483648, 2147483647), (0, -2147483648, 2147483647), (0, -2147483648, 2147483647), (0, -2147483648, 2147483647), (0, -2147483648, 2147483647), (0, -2147483648, 2147483647), (0, -2147483648, 2147483647), (0, -2147483648, 2147483647), (0, -2147483648, 2147483647), (0, -2147483648, 2147483647), (0, -2147483648, 2147483647), (0, -2147483648, 2147483647), (0, -2147483648, 2147483647), (0, -2147483648, 2147483647), (0, -2147483648, 2147483647), (0, -2147483648, 2147483647), (0, -2147483648, 2147483647), (0, -2147483648, 2147483647), (0, -2147483648, 2147483647), (0, -2147483648, 2147483647), (0, -2147483648, 2147483647), (0, -2147483648, 2147483647), (0, -2147483648, 2147483647), (0, -2147483648, 2147483647), (0, -2147483648, 2147483647)]
def rm_mE (j : Nat) : rk_AV := if Nat.blt j 2560 then rm_mS.getD (j % 64) rk_full else if Nat.blt j 2860 then rm_mR.getD ((j - 2560) % 75) rk_full else if Nat.blt j 6276 then rm_mD.getD ((j - 2860) % 427) rk_full else if Nat.beq j 6456 then (1, 0, 0) else rk_full
def rm_eq (t u : rk_AV) : Bool := Nat.beq t.1 u.1 && (decide (t.2.1 = u.2.1) && decide (t.2.2 = u.2.2))
def rm_same (t : rk_AV) : Nat → Nat → Bool
  | 0, _ => true
  | n + 1, j => rm_eq (rm_mE j) t && rm_same t n (j + 1)
theorem rm_same_ok {t : rk_AV} : ∀ (n j : Nat), rm_same t n j = true → ∀ i, j ≤ i → i < j + n → rm_mE i = t
  | 0, j, _, i, h1, h2 => by omega
  | n + 1, j, h, i, h1, h2 => by
    unfold rm_same at h
    rw [Bool.and_eq_true] at h
    by_cases hij : i = j
    · subst hij
      have h3 := h.1
      unfold rm_eq at h3
      simp only [Bool.and_eq_true, Nat.beq_eq, decide_eq_true_eq] at h3
      exact Prod.ext h3.1 (Prod.ext h3.2.1 h3.2.2)
    · exact rm_same_ok n (j + 1) h.2 i (by omega) (by omega)
def rm_isN (k : Nat) : Bool := Nat.beq k 24 || (Nat.beq k 30 || Nat.beq k 31)
def rk_ER (k : Nat) (a b : Int) : Option rk_AV := if Nat.ble 1000 k then none else if rm_isN k then (if 0 ≤ a ∧ b ≤ a + 600 then (if rm_same (rm_mE a.toNat) (b - a + 1).toNat a.toNat then some (rm_mE a.toNat) else none) else none) else rk_et.getD k none
def rk_E (ad : Nat → Nat) (k : Nat) (j : Nat) : rk_AV := if Nat.ble 1000 k then (0, (ad (k - 1000) : Int), 0) else if rm_isN k then rm_mE j else (rk_et.getD k none).getD rk_full
theorem rk_hER (ad : Nat → Nat) : ∀ k a b t, rk_ER k a b = some t → ∀ j : Nat, a ≤ (j : Int) → (j : Int) ≤ b → rk_E ad k j = t := by
  intro k a b t h j h1 h2
  unfold rk_ER at h
  unfold rk_E
  split at h
  · cases h
  · rename_i hk
    rw [if_neg hk]
    split at h
    · rename_i hN
      rw [if_pos hN]
      split at h
      · split at h
        · rename_i hr hs
          cases h
          exact rm_same_ok _ _ hs j (by omega) (by omega)
        · cases h
      · cases h
    · rename_i hN
      rw [if_neg hN, h]
      rfl
def rk_tys (cI c1 c2 c3 c4 c5 : ClassId) : List (ClassId × FieldType) := [(cI, .int), (c1, .object RX8), (c2, .object RX2), (c3, .object RX6), (c4, .object RX1), (c5, .object RX4)]
theorem rk_hap (cI c1 c2 c3 c4 c5 : ClassId) : ∀ cA C, (rk_tys cI c1 c2 c3 c4 c5)[(5, 4).1]? = some (cA, .object C) → ∃ q, vwCl[(5, 4).2]? = some q ∧ q.1 = C := fun cA C h => by
  cases h
  exact ⟨_, rfl, rfl⟩
def rk_nf : List (String × Nat × String × String × String × String) := [(RX11, 227, "SpaceLinks$Log", "came", "I", "SpaceLinks"), (RX8, 83, "SpaceLinks$Row", "count", "I", "SpaceLinks"), (RX1, 75, "SpaceLinks$Row", "count", "I", "SpaceLinks"), (RX11, 107, "SpaceLinks$Row", "count", "I", "SpaceLinks"), (RX10, 260, "SpaceLinks$Row", "count", "I", "SpaceLinks"), (RX10, 138, "SpaceLinks$Side", "buffer", "LSpaceLinks$Row;", "SpaceLinks"), (RX11, 152, "SpaceLinks$Side", "buffer", "LSpaceLinks$Row;", "SpaceLinks"), (RX10, 103, "SpaceLinks$Side", "state", "I", "SpaceLinks"), (RX11, 130, "SpaceLinks$Side", "state", "I", "SpaceLinks"), (RX10, 237, "SpaceLinks$Side", "age", "I", "SpaceLinks"), (RX10, 197, "SpaceLinks$Side", "quiet", "I", "SpaceLinks"), (RX5, 15, "SpaceLinks$Side", "other", "I", "SpaceLinks"), (RX11, 31, "SpaceLinks$Side", "other", "I", "SpaceLinks"), (RX10, 85, "SpaceLinks$Side", "other", "I", "SpaceLinks"), (RX9, 85, "SpaceLinks$Side", "other", "I", "SpaceLinks"), (RX10, 88, "SpaceLinks$Side", "whole", "Z", "SpaceLinks"), (RX11, 45, "SpaceLinks$Side", "whole", "Z", "SpaceLinks"), (RX10, 100, "SpaceLinks$Side", "on", "Z", "SpaceLinks"), (RX11, 49, "SpaceLinks$Side", "on", "Z", "SpaceLinks"), (RX10, 123, "SpaceLinks$Side", "bought", "I", "SpaceLinks"), (RX10, 126, "SpaceLinks$Side", "sold", "I", "SpaceLinks"), (RX10, 113, "SpaceLinks$Side", "sent", "I", "SpaceLinks"), (RX10, 129, "SpaceLinks$Side", "timeToSend", "I", "SpaceLinks"), (RX11, 146, "SpaceLinks$Side", "timeToSend", "I", "SpaceLinks"), (RX10, 132, "SpaceLinks$Side", "owes", "Z", "SpaceLinks"), (RX10, 200, "SpaceLinks$Side", "answered", "Z", "SpaceLinks"), (RX10, 135, "SpaceLinks$Side", "cameOpen", "Z", "SpaceLinks"), (RX10, 146, "SpaceLinks$Side", "sentOpen", "Z", "SpaceLinks"), (RX10, 116, "SpaceLinks$Side", "fell", "I", "SpaceLinks"), (RX10, 234, "SpaceLinks$Side", "silent", "I", "SpaceLinks"), (RX10, 207, "SpaceLinks$Side", "spoiled", "I", "SpaceLinks"), (RX10, 352, "SpaceLinks$Side", "dataSent", "I", "SpaceLinks"), (RX10, 231, "SpaceLinks$Side", "dataHeard", "I", "SpaceLinks"), (RX10, 309, "SpaceLinks$Input", "order", "[I", "SpaceLinks"), (RX10, 312, "SpaceLinks$Input", "ordered", "I", "SpaceLinks"), (RX10, 246, "SpaceLinks$Input", "ordering", "Z", "SpaceLinks"), (RX10, 191, "SpaceLinks$Input", "mode", "I", "SpaceLinks"), (RX10, 291, "SpaceLinks$Input", "to", "I", "SpaceLinks"), (RX10, 158, "SpaceLinks$Input", "from", "I", "SpaceLinks"), (RX10, 194, "SpaceLinks$Input", "stuck", "I", "SpaceLinks"), (RX1, 78, "SpaceLinks$Clock", "time", "I", "SpaceLinks"), (RX6, 72, "SpaceLinks$Clock", "time", "I", "SpaceLinks"), (RX11, 143, "SpaceLinks$Clock", "time", "I", "SpaceLinks"), (RX10, 319, "SpaceLinks$Clock", "time", "I", "SpaceLinks"), (RX1, 81, "SpaceLinks$Clock", "steps", "I", "SpaceLinks"), (RX6, 75, "SpaceLinks$Clock", "steps", "I", "SpaceLinks"), (RX1, 84, "SpaceLinks$Clock", "jumps", "I", "SpaceLinks"), (RX6, 78, "SpaceLinks$Clock", "jumps", "I", "SpaceLinks"), (RX11, 242, "SpaceLinks$Router", "tables", "[I", "SpaceLinks"), (RX10, 230, "SpaceLinks$Router", "clock", "LSpaceLinks$Clock;", "SpaceLinks"), (RX10, 175, "SpaceLinks$Router", "turn", "I", "SpaceLinks"), (RX10, 297, "SpaceLinks$Router", "routed", "I", "SpaceLinks"), (RX10, 278, "SpaceLinks$Router", "taken", "I", "SpaceLinks"), (RX10, 284, "SpaceLinks$Router", "lost", "I", "SpaceLinks"), (RX10, 322, "SpaceLinks$Router", "cut", "I", "SpaceLinks"), (RX10, 275, "SpaceLinks$Router", "empty", "I", "SpaceLinks"), (RX10, 303, "SpaceLinks$Router", "written", "I", "SpaceLinks"), (RX10, 306, "SpaceLinks$Router", "refused", "I", "SpaceLinks"), (RX1, 68, "SpaceLinks$Packet", "length", "I", "SpaceLinks"), (RX1, 62, "SpaceLinks$Packet", "whole", "Z", "SpaceLinks"), (RX1, 65, "SpaceLinks$Packet", "tick", "I", "SpaceLinks"), (RX10, 152, "SpaceLinks$End", "queue", "LSpaceLinks$Row;", "SpaceLinks"), (RX11, 103, "SpaceLinks$End", "queue", "LSpaceLinks$Row;", "SpaceLinks"), (RX10, 221, "SpaceLinks$End", "clock", "LSpaceLinks$Clock;", "SpaceLinks"), (RX11, 133, "SpaceLinks$End", "clock", "LSpaceLinks$Clock;", "SpaceLinks"), (RX10, 332, "SpaceLinks$End", "coming", "LSpaceLinks$Packet;", "SpaceLinks"), (RX11, 85, "SpaceLinks$End", "holds", "Z", "SpaceLinks"), (RX10, 325, "SpaceLinks$End", "holds", "Z", "SpaceLinks"), (RX10, 361, "SpaceLinks$End", "received", "I", "SpaceLinks"), (RX11, 215, "SpaceLinks$End", "received", "I", "SpaceLinks"), (RX10, 358, "SpaceLinks$End", "receivedWhole", "I", "SpaceLinks"), (RX10, 149, "SpaceLinks$End", "spilled", "I", "SpaceLinks"), (RX5, 9, "SpaceLinks$World", "sides", "[LSpaceLinks$Side;", "SpaceLinks"), (RX11, 27, "SpaceLinks$World", "sides", "[LSpaceLinks$Side;", "SpaceLinks"), (RX9, 79, "SpaceLinks$World", "sides", "[LSpaceLinks$Side;", "SpaceLinks"), (RX11, 158, "SpaceLinks$World", "inputs", "[LSpaceLinks$Input;", "SpaceLinks"), (RX5, 49, "SpaceLinks$World", "routers", "[LSpaceLinks$Router;", "SpaceLinks"), (RX9, 90, "SpaceLinks$World", "routers", "[LSpaceLinks$Router;", "SpaceLinks"), (RX11, 68, "SpaceLinks$World", "routers", "[LSpaceLinks$Router;", "SpaceLinks"), (RX11, 81, "SpaceLinks$World", "ends", "[LSpaceLinks$End;", "SpaceLinks"), (RX11, 199, "SpaceLinks$World", "log", "LSpaceLinks$Log;", "SpaceLinks"), (RX11, 230, "SpaceLinks$World", "sentKinds", "[I", "SpaceLinks"), (RX11, 90, "SpaceLinks$World", "tick", "I", "SpaceLinks"), (RX11, 56, "SpaceLinks$World", "watch", "I", "SpaceLinks"), (RX11, 59, "SpaceLinks$World", "odds", "I", "SpaceLinks"), (RX11, 62, "SpaceLinks$World", "draws", "I", "SpaceLinks"), (RX11, 112, "SpaceLinks$Tape", "cells", "[I", "SpaceLinks"), (RX11, 97, "SpaceLinks$Tape", "length", "I", "SpaceLinks"), (RX11, 124, "SpaceLinks$Tape", "fault", "I", "SpaceLinks"), (RX11, 127, "SpaceLinks$Tape", "place", "I", "SpaceLinks"), (RX11, 236, "SpaceLinks$Tape", "partners", "[I", "SpaceLinks"), (RX11, 239, "SpaceLinks$Tape", "tables", "[I", "SpaceLinks")]
def rk_nm : List (String × Nat × MethodName × String) := [(RX10, 37, yX3_init, "SpaceLinks"), (RX10, 50, yX8_init, "SpaceLinks"), (RX10, 51, yX2_init, "SpaceLinks"), (RX10, 52, yX6_init, "SpaceLinks"), (RX6, 17, yX0_init, "SpaceLinks"), (RX1, 22, yX0_init, "SpaceLinks"), (RX1, 33, yX4_init, "SpaceLinks"), (RX11, 18, yX9_init, "SpaceLinks"), (RX10, 96, yX11_isSocket, "SpaceLinks"), (RX6, 57, yX11_isAddress, "SpaceLinks"), (RX6, 61, yX11_isPortSet, "SpaceLinks"), (RX1, 71, yX11_bit, "SpaceLinks"), (RX8, 86, yX11_bit, "SpaceLinks"), (RX6, 68, yX11_bit, "SpaceLinks"), (RX4, 32, yX11_bit, "SpaceLinks"), (RX10, 364, yX11_bit, "SpaceLinks")]
def rk_strs : List (String × Nat × String × Nat) := [(RX9, 47, "cable", 0), (RX9, 73, "e", 2), (RX9, 56, "table", 1), (RX9, 100, "go", 3), (RX9, 102, "stay", 4), (RX12, 296, "cable", 0), (RX12, 273, "e", 2), (RX12, 301, "table", 1), (RX12, 288, "go", 3), (RX12, 290, "stay", 4)]
def rk_len : List Nat := [5, 5, 1, 2, 4]
def rk_byt : List (List Int32) := [[99, 97, 98, 108, 101], [116, 97, 98, 108, 101], [101], [103, 111], [115, 116, 97, 121]]
def rk_NU (base : Nat) (ad adV : Nat → Nat) (U : State) : Prop := rk_N rk_nf rk_nm U ∧ (∀ q ∈ rk_strs, vk_R q.1 q.2.1 q.2.2.1 (ad q.2.2.2) U) ∧ vk_S 5 rk_len rk_byt ad adV (fun q => base ≤ q) U U.heap ∧ va_Z RJ0 "COMPACT_STRINGS" "Z" (.int 1) (fun q => base ≤ q) U U.heap ∧ va_Zq RJ3 "SIOOBE_FORMATTER" "Ljava/util/function/BiFunction;" (fun q => base ≤ q) U U.heap ∧ ∀ C ∈ [RX8, RX2, RX6, RX1, RX4], va_AO C U
theorem rk_hNw (base : Nat) (ad adV : Nat → Nat) : ∀ (s U : State) (A : Nat → Prop) (locs : List Loc), (∀ q, A q → base ≤ q) → va_S A s.heap U.heap locs → s.WarmedH U.vm → rk_NU base ad adV s → rk_NU base ad adV U := by
  intro s U A locs hA hS hW ⟨h1, h2, h3, h4, h5, h6⟩
  have hk : ∀ a : Nat, a < s.heap.size → ¬ base ≤ a → U.heap[a]? = s.heap[a]? := fun a ha hna => hS.2.1 a ha (fun h => hna (hA a h))
  exact ⟨rk_N_warm hW h1, fun q hq => vk_R.warm hW (h2 q hq), (h3.moved hW.alike).kept hk, (h4.moved hW.alike).kept hk, (h5.moved hW.alike).kept hk, fun C hC => va_AO.moved hW.alike (h6 C hC)⟩
theorem rk_hNc (base : Nat) (ad adV : Nat → Nat) : ∀ u U : State, u.vm = U.vm → u.heap = U.heap → rk_NU base ad adV u → rk_NU base ad adV U := by
  intro u U hv hh ⟨h1, h2, h3, h4, h5, h6⟩
  have hal : u.vm.Alike U.vm := by rw [hv]; exact Vm.Alike.refl _
  have g3 := h3.moved hal
  have g4 := h4.moved hal
  have g5 := h5.moved hal
  rw [hh] at g3 g4 g5
  exact ⟨rk_N_same hv h1, fun q hq => vk_R.same hv.symm (h2 q hq), g3, g4, g5, fun C hC => va_AO.moved hal (h6 C hC)⟩
/-- the contract, with all that is fixed here -/
abbrev rk_Mc (base : Nat) (l : Launch) (cI c1 c2 c3 c4 c5 : ClassId) (D : va_G) (ad adV : Nat → Nat) (M : rk_Mt) (avs : List rk_AV) (alts : List rk_Alt) (C : Int) (lv : Nat) : Prop := rk_Met base l rk_K (rk_E ad) (rk_tys cI c1 c2 c3 c4 c5) D (rk_NU base ad adV) rc_Lv (fun _ _ => True) M avs alts C lv
/-- the model's -/
abbrev rm_Mc (base : Nat) (l : Launch) (cI c1 c2 c3 c4 c5 : ClassId) (D : va_G) (ad adV : Nat → Nat) (M : rk_Mt) (avs : List rk_AV) (alts : List rk_Alt) (C : Int) (lv : Nat) : Prop := rk_Met base l rk_K (rk_E ad) (rk_tys cI c1 c2 c3 c4 c5) D (rk_NU base ad adV) rm_Lv (fun _ _ => True) M avs alts C lv
/-- the model's, where it must be sound -/
abbrev rm_Mi (base : Nat) (l : Launch) (cI c1 c2 c3 c4 c5 : ClassId) (D : va_G) (ad adV : Nat → Nat) (M : rk_Mt) (avs : List rk_AV) (alts : List rk_Alt) (C : Int) (lv : Nat) : Prop := rk_Met base l rk_K (rk_E ad) (rk_tys cI c1 c2 c3 c4 c5) D (rk_NU base ad adV) rm_Lv rm_PI M avs alts C lv
theorem rk_inX0 : ∀ z ∈ u_ws RX0 TX0 3, z ∈ rk_tbl := by
  have h : u_ws RX0 TX0 3 = [356, 358, 360].filterMap (fun i => lw_tbl[i]?) := by decide +kernel
  have g : (u_ws RX0 TX0 3).all goodWord = true := by decide +kernel
  intro z hz
  refine List.mem_filter.mpr ⟨?_, List.all_eq_true.mp g z hz⟩
  rw [h] at hz
  obtain ⟨i, -, hi⟩ := List.mem_filterMap.mp hz
  exact List.mem_of_getElem? hi
theorem rk_inX1 : ∀ z ∈ u_ws RX1 TX1 8, z ∈ rk_tbl := by
  have h : u_ws RX1 TX1 8 = [455, 457, 459, 461, 463, 465, 467, 469].filterMap (fun i => lw_tbl[i]?) := by decide +kernel
  have g : (u_ws RX1 TX1 8).all goodWord = true := by decide +kernel
  intro z hz
  refine List.mem_filter.mpr ⟨?_, List.all_eq_true.mp g z hz⟩
  rw [h] at hz
  obtain ⟨i, -, hi⟩ := List.mem_filterMap.mp hz
  exact List.mem_of_getElem? hi
theorem rk_inX2 : ∀ z ∈ u_ws RX2 TX2 7, z ∈ rk_tbl := by
  have h : u_ws RX2 TX2 7 = [319, 321, 323, 325, 327, 329, 331].filterMap (fun i => lw_tbl[i]?) := by decide +kernel
  have g : (u_ws RX2 TX2 7).all goodWord = true := by decide +kernel
  intro z hz
  refine List.mem_filter.mpr ⟨?_, List.all_eq_true.mp g z hz⟩
  rw [h] at hz
  obtain ⟨i, -, hi⟩ := List.mem_filterMap.mp hz
  exact List.mem_of_getElem? hi
theorem rk_inX3 : ∀ z ∈ u_ws RX3 TX3 4, z ∈ rk_tbl := by
  have h : u_ws RX3 TX3 4 = [173, 175, 177, 179].filterMap (fun i => lw_tbl[i]?) := by decide +kernel
  have g : (u_ws RX3 TX3 4).all goodWord = true := by decide +kernel
  intro z hz
  refine List.mem_filter.mpr ⟨?_, List.all_eq_true.mp g z hz⟩
  rw [h] at hz
  obtain ⟨i, -, hi⟩ := List.mem_filterMap.mp hz
  exact List.mem_of_getElem? hi
theorem rk_inX4 : ∀ z ∈ u_ws RX4 TX4 4, z ∈ rk_tbl := by
  have h : u_ws RX4 TX4 4 = [427, 429, 431, 433].filterMap (fun i => lw_tbl[i]?) := by decide +kernel
  have g : (u_ws RX4 TX4 4).all goodWord = true := by decide +kernel
  intro z hz
  refine List.mem_filter.mpr ⟨?_, List.all_eq_true.mp g z hz⟩
  rw [h] at hz
  obtain ⟨i, -, hi⟩ := List.mem_filterMap.mp hz
  exact List.mem_of_getElem? hi
theorem rk_inX6 : ∀ z ∈ u_ws RX6 TX6 10, z ∈ rk_tbl := by
  have h : u_ws RX6 TX6 10 = [383, 385, 387, 389, 391, 393, 395, 397, 399, 401].filterMap (fun i => lw_tbl[i]?) := by decide +kernel
  have g : (u_ws RX6 TX6 10).all goodWord = true := by decide +kernel
  intro z hz
  refine List.mem_filter.mpr ⟨?_, List.all_eq_true.mp g z hz⟩
  rw [h] at hz
  obtain ⟨i, -, hi⟩ := List.mem_filterMap.mp hz
  exact List.mem_of_getElem? hi
theorem rk_inX7 : ∀ z ∈ u_ws RX7 TX7 3, z ∈ rk_tbl := by
  have h : u_ws RX7 TX7 3 = [204, 206, 208].filterMap (fun i => lw_tbl[i]?) := by decide +kernel
  have g : (u_ws RX7 TX7 3).all goodWord = true := by decide +kernel
  intro z hz
  refine List.mem_filter.mpr ⟨?_, List.all_eq_true.mp g z hz⟩
  rw [h] at hz
  obtain ⟨i, -, hi⟩ := List.mem_filterMap.mp hz
  exact List.mem_of_getElem? hi
theorem rk_inX8 : ∀ z ∈ u_ws RX8 TX8 20, z ∈ rk_tbl := by
  have h : u_ws RX8 TX8 20 = [259, 261, 263, 265, 267, 269, 271, 273, 275, 277, 279, 281, 283, 285, 287, 289, 291, 293, 295, 297].filterMap (fun i => lw_tbl[i]?) := by decide +kernel
  have g : (u_ws RX8 TX8 20).all goodWord = true := by decide +kernel
  intro z hz
  refine List.mem_filter.mpr ⟨?_, List.all_eq_true.mp g z hz⟩
  rw [h] at hz
  obtain ⟨i, -, hi⟩ := List.mem_filterMap.mp hz
  exact List.mem_of_getElem? hi
theorem rk_inX9 : ∀ z ∈ u_ws RX9 TX9 7, z ∈ rk_tbl := by
  have h : u_ws RX9 TX9 7 = [536, 538, 540, 542, 544, 546, 548].filterMap (fun i => lw_tbl[i]?) := by decide +kernel
  have g : (u_ws RX9 TX9 7).all goodWord = true := by decide +kernel
  intro z hz
  refine List.mem_filter.mpr ⟨?_, List.all_eq_true.mp g z hz⟩
  rw [h] at hz
  obtain ⟨i, -, hi⟩ := List.mem_filterMap.mp hz
  exact List.mem_of_getElem? hi
theorem rk_inX10 : ∀ z ∈ u_ws RX10 TX10 10, z ∈ rk_tbl := by
  have h : u_ws RX10 TX10 10 = [496, 498, 500, 502, 504, 506, 508, 510, 512, 514].filterMap (fun i => lw_tbl[i]?) := by decide +kernel
  have g : (u_ws RX10 TX10 10).all goodWord = true := by decide +kernel
  intro z hz
  refine List.mem_filter.mpr ⟨?_, List.all_eq_true.mp g z hz⟩
  rw [h] at hz
  obtain ⟨i, -, hi⟩ := List.mem_filterMap.mp hz
  exact List.mem_of_getElem? hi
theorem rk_inX11 : ∀ z ∈ u_ws RX11 TX11 4, z ∈ rk_tbl := by
  have h : u_ws RX11 TX11 4 = [555, 557, 559, 561].filterMap (fun i => lw_tbl[i]?) := by decide +kernel
  have g : (u_ws RX11 TX11 4).all goodWord = true := by decide +kernel
  intro z hz
  refine List.mem_filter.mpr ⟨?_, List.all_eq_true.mp g z hz⟩
  rw [h] at hz
  obtain ⟨i, -, hi⟩ := List.mem_filterMap.mp hz
  exact List.mem_of_getElem? hi
theorem rk_inX12 : ∀ z ∈ u_ws RX12 TX12 13, z ∈ rk_tbl := by
  have h : u_ws RX12 TX12 13 = [1171, 1173, 1175, 1177, 1179, 1181, 1183, 1185, 1187, 1189, 1191, 1193, 1195].filterMap (fun i => lw_tbl[i]?) := by decide +kernel
  have g : (u_ws RX12 TX12 13).all goodWord = true := by decide +kernel
  intro z hz
  refine List.mem_filter.mpr ⟨?_, List.all_eq_true.mp g z hz⟩
  rw [h] at hz
  obtain ⟨i, -, hi⟩ := List.mem_filterMap.mp hz
  exact List.mem_of_getElem? hi
