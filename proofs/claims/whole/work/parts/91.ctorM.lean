/-! The constructor of the reference. Laid by wip/whole/prog/p40.py. -/
def mf_0 (b : Nat) : List Value := [.int (nI 0), .null, .null, .null, .null, .null, .int (nI 0), .null, .null, .null, .null, .int (nI 0), .null, .null, .null, .null, .null, .null, .null, .int (nI 0), .null, .null, .int (nI 0), .int (nI 0), .int (nI 0), .null, .null, .null, .null, .null, .null, .null, .null, .null, .null, .null, .null, .null, .null]
def mf_1 (b : Nat) : List Value := [.int (nI 0), .ref (b + 1), .null, .null, .null, .null, .int (nI 0), .null, .null, .null, .null, .int (nI 0), .null, .null, .null, .null, .null, .null, .null, .int (nI 0), .null, .null, .int (nI 0), .int (nI 0), .int (nI 0), .null, .null, .null, .null, .null, .null, .null, .null, .null, .null, .null, .null, .null, .null]
def mf_2 (b : Nat) : List Value := [.int (nI 0), .ref (b + 1), .ref (b + 2), .null, .null, .null, .int (nI 0), .null, .null, .null, .null, .int (nI 0), .null, .null, .null, .null, .null, .null, .null, .int (nI 0), .null, .null, .int (nI 0), .int (nI 0), .int (nI 0), .null, .null, .null, .null, .null, .null, .null, .null, .null, .null, .null, .null, .null, .null]
def mf_3 (b : Nat) : List Value := [.int (nI 0), .ref (b + 1), .ref (b + 2), .ref (b + 3), .null, .null, .int (nI 0), .null, .null, .null, .null, .int (nI 0), .null, .null, .null, .null, .null, .null, .null, .int (nI 0), .null, .null, .int (nI 0), .int (nI 0), .int (nI 0), .null, .null, .null, .null, .null, .null, .null, .null, .null, .null, .null, .null, .null, .null]
def mf_4 (b : Nat) : List Value := [.int (nI 0), .ref (b + 1), .ref (b + 2), .ref (b + 3), .ref (b + 4), .null, .int (nI 0), .null, .null, .null, .null, .int (nI 0), .null, .null, .null, .null, .null, .null, .null, .int (nI 0), .null, .null, .int (nI 0), .int (nI 0), .int (nI 0), .null, .null, .null, .null, .null, .null, .null, .null, .null, .null, .null, .null, .null, .null]
def mf_5 (b : Nat) : List Value := [.int (nI 0), .ref (b + 1), .ref (b + 2), .ref (b + 3), .ref (b + 4), .ref (b + 5), .int (nI 0), .null, .null, .null, .null, .int (nI 0), .null, .null, .null, .null, .null, .null, .null, .int (nI 0), .null, .null, .int (nI 0), .int (nI 0), .int (nI 0), .null, .null, .null, .null, .null, .null, .null, .null, .null, .null, .null, .null, .null, .null]
def mf_6 (b : Nat) : List Value := [.int (nI 0), .ref (b + 1), .ref (b + 2), .ref (b + 3), .ref (b + 4), .ref (b + 5), .int (nI 0), .ref (b + 6), .null, .null, .null, .int (nI 0), .null, .null, .null, .null, .null, .null, .null, .int (nI 0), .null, .null, .int (nI 0), .int (nI 0), .int (nI 0), .null, .null, .null, .null, .null, .null, .null, .null, .null, .null, .null, .null, .null, .null]
def mf_7 (b : Nat) : List Value := [.int (nI 0), .ref (b + 1), .ref (b + 2), .ref (b + 3), .ref (b + 4), .ref (b + 5), .int (nI 0), .ref (b + 6), .ref (b + 7), .null, .null, .int (nI 0), .null, .null, .null, .null, .null, .null, .null, .int (nI 0), .null, .null, .int (nI 0), .int (nI 0), .int (nI 0), .null, .null, .null, .null, .null, .null, .null, .null, .null, .null, .null, .null, .null, .null]
def mf_8 (b : Nat) : List Value := [.int (nI 0), .ref (b + 1), .ref (b + 2), .ref (b + 3), .ref (b + 4), .ref (b + 5), .int (nI 0), .ref (b + 6), .ref (b + 7), .ref (b + 8), .null, .int (nI 0), .null, .null, .null, .null, .null, .null, .null, .int (nI 0), .null, .null, .int (nI 0), .int (nI 0), .int (nI 0), .null, .null, .null, .null, .null, .null, .null, .null, .null, .null, .null, .null, .null, .null]
def mf_9 (b : Nat) : List Value := [.int (nI 0), .ref (b + 1), .ref (b + 2), .ref (b + 3), .ref (b + 4), .ref (b + 5), .int (nI 0), .ref (b + 6), .ref (b + 7), .ref (b + 8), .ref (b + 9), .int (nI 0), .null, .null, .null, .null, .null, .null, .null, .int (nI 0), .null, .null, .int (nI 0), .int (nI 0), .int (nI 0), .null, .null, .null, .null, .null, .null, .null, .null, .null, .null, .null, .null, .null, .null]
def mf_10 (b : Nat) : List Value := [.int (nI 0), .ref (b + 1), .ref (b + 2), .ref (b + 3), .ref (b + 4), .ref (b + 5), .int (nI 0), .ref (b + 6), .ref (b + 7), .ref (b + 8), .ref (b + 9), .int (nI 0), .ref (b + 10), .null, .null, .null, .null, .null, .null, .int (nI 0), .null, .null, .int (nI 0), .int (nI 0), .int (nI 0), .null, .null, .null, .null, .null, .null, .null, .null, .null, .null, .null, .null, .null, .null]
def mf_11 (b : Nat) : List Value := [.int (nI 0), .ref (b + 1), .ref (b + 2), .ref (b + 3), .ref (b + 4), .ref (b + 5), .int (nI 0), .ref (b + 6), .ref (b + 7), .ref (b + 8), .ref (b + 9), .int (nI 0), .ref (b + 10), .ref (b + 11), .null, .null, .null, .null, .null, .int (nI 0), .null, .null, .int (nI 0), .int (nI 0), .int (nI 0), .null, .null, .null, .null, .null, .null, .null, .null, .null, .null, .null, .null, .null, .null]
def mf_12 (b : Nat) : List Value := [.int (nI 0), .ref (b + 1), .ref (b + 2), .ref (b + 3), .ref (b + 4), .ref (b + 5), .int (nI 0), .ref (b + 6), .ref (b + 7), .ref (b + 8), .ref (b + 9), .int (nI 0), .ref (b + 10), .ref (b + 11), .ref (b + 12), .null, .null, .null, .null, .int (nI 0), .null, .null, .int (nI 0), .int (nI 0), .int (nI 0), .null, .null, .null, .null, .null, .null, .null, .null, .null, .null, .null, .null, .null, .null]
def mf_13 (b : Nat) : List Value := [.int (nI 0), .ref (b + 1), .ref (b + 2), .ref (b + 3), .ref (b + 4), .ref (b + 5), .int (nI 0), .ref (b + 6), .ref (b + 7), .ref (b + 8), .ref (b + 9), .int (nI 0), .ref (b + 10), .ref (b + 11), .ref (b + 12), .ref (b + 13), .null, .null, .null, .int (nI 0), .null, .null, .int (nI 0), .int (nI 0), .int (nI 0), .null, .null, .null, .null, .null, .null, .null, .null, .null, .null, .null, .null, .null, .null]
def mf_14 (b : Nat) : List Value := [.int (nI 0), .ref (b + 1), .ref (b + 2), .ref (b + 3), .ref (b + 4), .ref (b + 5), .int (nI 0), .ref (b + 6), .ref (b + 7), .ref (b + 8), .ref (b + 9), .int (nI 0), .ref (b + 10), .ref (b + 11), .ref (b + 12), .ref (b + 13), .ref (b + 14), .null, .null, .int (nI 0), .null, .null, .int (nI 0), .int (nI 0), .int (nI 0), .null, .null, .null, .null, .null, .null, .null, .null, .null, .null, .null, .null, .null, .null]
def mf_15 (b : Nat) : List Value := [.int (nI 0), .ref (b + 1), .ref (b + 2), .ref (b + 3), .ref (b + 4), .ref (b + 5), .int (nI 0), .ref (b + 6), .ref (b + 7), .ref (b + 8), .ref (b + 9), .int (nI 0), .ref (b + 10), .ref (b + 11), .ref (b + 12), .ref (b + 13), .ref (b + 14), .ref (b + 15), .null, .int (nI 0), .null, .null, .int (nI 0), .int (nI 0), .int (nI 0), .null, .null, .null, .null, .null, .null, .null, .null, .null, .null, .null, .null, .null, .null]
def mf_16 (b : Nat) : List Value := [.int (nI 0), .ref (b + 1), .ref (b + 2), .ref (b + 3), .ref (b + 4), .ref (b + 5), .int (nI 0), .ref (b + 6), .ref (b + 7), .ref (b + 8), .ref (b + 9), .int (nI 0), .ref (b + 10), .ref (b + 11), .ref (b + 12), .ref (b + 13), .ref (b + 14), .ref (b + 15), .ref (b + 16), .int (nI 0), .null, .null, .int (nI 0), .int (nI 0), .int (nI 0), .null, .null, .null, .null, .null, .null, .null, .null, .null, .null, .null, .null, .null, .null]
def mf_17 (b : Nat) : List Value := [.int (nI 0), .ref (b + 1), .ref (b + 2), .ref (b + 3), .ref (b + 4), .ref (b + 5), .int (nI 0), .ref (b + 6), .ref (b + 7), .ref (b + 8), .ref (b + 9), .int (nI 0), .ref (b + 10), .ref (b + 11), .ref (b + 12), .ref (b + 13), .ref (b + 14), .ref (b + 15), .ref (b + 16), .int (nI 0), .ref (b + 17), .null, .int (nI 0), .int (nI 0), .int (nI 0), .null, .null, .null, .null, .null, .null, .null, .null, .null, .null, .null, .null, .null, .null]
def mf_18 (b : Nat) : List Value := [.int (nI 0), .ref (b + 1), .ref (b + 2), .ref (b + 3), .ref (b + 4), .ref (b + 5), .int (nI 0), .ref (b + 6), .ref (b + 7), .ref (b + 8), .ref (b + 9), .int (nI 0), .ref (b + 10), .ref (b + 11), .ref (b + 12), .ref (b + 13), .ref (b + 14), .ref (b + 15), .ref (b + 16), .int (nI 0), .ref (b + 17), .ref (b + 18), .int (nI 0), .int (nI 0), .int (nI 0), .null, .null, .null, .null, .null, .null, .null, .null, .null, .null, .null, .null, .null, .null]
def mf_19 (b : Nat) : List Value := [.int (nI 0), .ref (b + 1), .ref (b + 2), .ref (b + 3), .ref (b + 4), .ref (b + 5), .int (nI 0), .ref (b + 6), .ref (b + 7), .ref (b + 8), .ref (b + 9), .int (nI 0), .ref (b + 10), .ref (b + 11), .ref (b + 12), .ref (b + 13), .ref (b + 14), .ref (b + 15), .ref (b + 16), .int (nI 0), .ref (b + 17), .ref (b + 18), .int (nI 0), .int (nI 0), .int (nI 3), .null, .null, .null, .null, .null, .null, .null, .null, .null, .null, .null, .null, .null, .null]
def mf_20 (b : Nat) : List Value := [.int (nI 0), .ref (b + 1), .ref (b + 2), .ref (b + 3), .ref (b + 4), .ref (b + 5), .int (nI 0), .ref (b + 6), .ref (b + 7), .ref (b + 8), .ref (b + 9), .int (nI 0), .ref (b + 10), .ref (b + 11), .ref (b + 12), .ref (b + 13), .ref (b + 14), .ref (b + 15), .ref (b + 16), .int (nI 0), .ref (b + 17), .ref (b + 18), .int (nI 0), .int (nI 0), .int (nI 3), .ref (b + 19), .null, .null, .null, .null, .null, .null, .null, .null, .null, .null, .null, .null, .null]
def mf_21 (b : Nat) : List Value := [.int (nI 0), .ref (b + 1), .ref (b + 2), .ref (b + 3), .ref (b + 4), .ref (b + 5), .int (nI 0), .ref (b + 6), .ref (b + 7), .ref (b + 8), .ref (b + 9), .int (nI 0), .ref (b + 10), .ref (b + 11), .ref (b + 12), .ref (b + 13), .ref (b + 14), .ref (b + 15), .ref (b + 16), .int (nI 0), .ref (b + 17), .ref (b + 18), .int (nI 0), .int (nI 0), .int (nI 3), .ref (b + 19), .ref (b + 20), .null, .null, .null, .null, .null, .null, .null, .null, .null, .null, .null, .null]
def mf_22 (b : Nat) : List Value := [.int (nI 0), .ref (b + 1), .ref (b + 2), .ref (b + 3), .ref (b + 4), .ref (b + 5), .int (nI 0), .ref (b + 6), .ref (b + 7), .ref (b + 8), .ref (b + 9), .int (nI 0), .ref (b + 10), .ref (b + 11), .ref (b + 12), .ref (b + 13), .ref (b + 14), .ref (b + 15), .ref (b + 16), .int (nI 0), .ref (b + 17), .ref (b + 18), .int (nI 0), .int (nI 0), .int (nI 3), .ref (b + 19), .ref (b + 20), .ref (b + 21), .null, .null, .null, .null, .null, .null, .null, .null, .null, .null, .null]
def mf_23 (b : Nat) : List Value := [.int (nI 0), .ref (b + 1), .ref (b + 2), .ref (b + 3), .ref (b + 4), .ref (b + 5), .int (nI 0), .ref (b + 6), .ref (b + 7), .ref (b + 8), .ref (b + 9), .int (nI 0), .ref (b + 10), .ref (b + 11), .ref (b + 12), .ref (b + 13), .ref (b + 14), .ref (b + 15), .ref (b + 16), .int (nI 0), .ref (b + 17), .ref (b + 18), .int (nI 0), .int (nI 0), .int (nI 3), .ref (b + 19), .ref (b + 20), .ref (b + 21), .ref (b + 22), .null, .null, .null, .null, .null, .null, .null, .null, .null, .null]
def mf_24 (b : Nat) : List Value := [.int (nI 0), .ref (b + 1), .ref (b + 2), .ref (b + 3), .ref (b + 4), .ref (b + 5), .int (nI 0), .ref (b + 6), .ref (b + 7), .ref (b + 8), .ref (b + 9), .int (nI 0), .ref (b + 10), .ref (b + 11), .ref (b + 12), .ref (b + 13), .ref (b + 14), .ref (b + 15), .ref (b + 16), .int (nI 0), .ref (b + 17), .ref (b + 18), .int (nI 0), .int (nI 0), .int (nI 3), .ref (b + 19), .ref (b + 20), .ref (b + 21), .ref (b + 22), .ref (b + 23), .null, .null, .null, .null, .null, .null, .null, .null, .null]
def mf_25 (b : Nat) : List Value := [.int (nI 0), .ref (b + 1), .ref (b + 2), .ref (b + 3), .ref (b + 4), .ref (b + 5), .int (nI 0), .ref (b + 6), .ref (b + 7), .ref (b + 8), .ref (b + 9), .int (nI 0), .ref (b + 10), .ref (b + 11), .ref (b + 12), .ref (b + 13), .ref (b + 14), .ref (b + 15), .ref (b + 16), .int (nI 0), .ref (b + 17), .ref (b + 18), .int (nI 0), .int (nI 0), .int (nI 3), .ref (b + 19), .ref (b + 20), .ref (b + 21), .ref (b + 22), .ref (b + 23), .ref (b + 24), .null, .null, .null, .null, .null, .null, .null, .null]
def mf_26 (b : Nat) : List Value := [.int (nI 0), .ref (b + 1), .ref (b + 2), .ref (b + 3), .ref (b + 4), .ref (b + 5), .int (nI 0), .ref (b + 6), .ref (b + 7), .ref (b + 8), .ref (b + 9), .int (nI 0), .ref (b + 10), .ref (b + 11), .ref (b + 12), .ref (b + 13), .ref (b + 14), .ref (b + 15), .ref (b + 16), .int (nI 0), .ref (b + 17), .ref (b + 18), .int (nI 0), .int (nI 0), .int (nI 3), .ref (b + 19), .ref (b + 20), .ref (b + 21), .ref (b + 22), .ref (b + 23), .ref (b + 24), .ref (b + 25), .null, .null, .null, .null, .null, .null, .null]
def mf_27 (b : Nat) : List Value := [.int (nI 0), .ref (b + 1), .ref (b + 2), .ref (b + 3), .ref (b + 4), .ref (b + 5), .int (nI 0), .ref (b + 6), .ref (b + 7), .ref (b + 8), .ref (b + 9), .int (nI 0), .ref (b + 10), .ref (b + 11), .ref (b + 12), .ref (b + 13), .ref (b + 14), .ref (b + 15), .ref (b + 16), .int (nI 0), .ref (b + 17), .ref (b + 18), .int (nI 0), .int (nI 0), .int (nI 3), .ref (b + 19), .ref (b + 20), .ref (b + 21), .ref (b + 22), .ref (b + 23), .ref (b + 24), .ref (b + 25), .ref (b + 26), .null, .null, .null, .null, .null, .null]
def mf_28 (b : Nat) : List Value := [.int (nI 0), .ref (b + 1), .ref (b + 2), .ref (b + 3), .ref (b + 4), .ref (b + 5), .int (nI 0), .ref (b + 6), .ref (b + 7), .ref (b + 8), .ref (b + 9), .int (nI 0), .ref (b + 10), .ref (b + 11), .ref (b + 12), .ref (b + 13), .ref (b + 14), .ref (b + 15), .ref (b + 16), .int (nI 0), .ref (b + 17), .ref (b + 18), .int (nI 0), .int (nI 0), .int (nI 3), .ref (b + 19), .ref (b + 20), .ref (b + 21), .ref (b + 22), .ref (b + 23), .ref (b + 24), .ref (b + 25), .ref (b + 26), .ref (b + 27), .null, .null, .null, .null, .null]
def mf_29 (b : Nat) : List Value := [.int (nI 0), .ref (b + 1), .ref (b + 2), .ref (b + 3), .ref (b + 4), .ref (b + 5), .int (nI 0), .ref (b + 6), .ref (b + 7), .ref (b + 8), .ref (b + 9), .int (nI 0), .ref (b + 10), .ref (b + 11), .ref (b + 12), .ref (b + 13), .ref (b + 14), .ref (b + 15), .ref (b + 16), .int (nI 0), .ref (b + 17), .ref (b + 18), .int (nI 0), .int (nI 0), .int (nI 3), .ref (b + 19), .ref (b + 20), .ref (b + 21), .ref (b + 22), .ref (b + 23), .ref (b + 24), .ref (b + 25), .ref (b + 26), .ref (b + 27), .ref (b + 28), .null, .null, .null, .null]
def mf_30 (b : Nat) : List Value := [.int (nI 0), .ref (b + 1), .ref (b + 2), .ref (b + 3), .ref (b + 4), .ref (b + 5), .int (nI 0), .ref (b + 6), .ref (b + 7), .ref (b + 8), .ref (b + 9), .int (nI 0), .ref (b + 10), .ref (b + 11), .ref (b + 12), .ref (b + 13), .ref (b + 14), .ref (b + 15), .ref (b + 16), .int (nI 0), .ref (b + 17), .ref (b + 18), .int (nI 0), .int (nI 0), .int (nI 3), .ref (b + 19), .ref (b + 20), .ref (b + 21), .ref (b + 22), .ref (b + 23), .ref (b + 24), .ref (b + 25), .ref (b + 26), .ref (b + 27), .ref (b + 28), .ref (b + 29), .null, .null, .null]
def mf_31 (b : Nat) : List Value := [.int (nI 0), .ref (b + 1), .ref (b + 2), .ref (b + 3), .ref (b + 4), .ref (b + 5), .int (nI 0), .ref (b + 6), .ref (b + 7), .ref (b + 8), .ref (b + 9), .int (nI 0), .ref (b + 10), .ref (b + 11), .ref (b + 12), .ref (b + 13), .ref (b + 14), .ref (b + 15), .ref (b + 16), .int (nI 0), .ref (b + 17), .ref (b + 18), .int (nI 0), .int (nI 0), .int (nI 3), .ref (b + 19), .ref (b + 20), .ref (b + 21), .ref (b + 22), .ref (b + 23), .ref (b + 24), .ref (b + 25), .ref (b + 26), .ref (b + 27), .ref (b + 28), .ref (b + 29), .ref (b + 30), .null, .null]
def mf_32 (b : Nat) : List Value := [.int (nI 0), .ref (b + 1), .ref (b + 2), .ref (b + 3), .ref (b + 4), .ref (b + 5), .int (nI 0), .ref (b + 6), .ref (b + 7), .ref (b + 8), .ref (b + 9), .int (nI 0), .ref (b + 10), .ref (b + 11), .ref (b + 12), .ref (b + 13), .ref (b + 14), .ref (b + 15), .ref (b + 16), .int (nI 0), .ref (b + 17), .ref (b + 18), .int (nI 0), .int (nI 0), .int (nI 3), .ref (b + 19), .ref (b + 20), .ref (b + 21), .ref (b + 22), .ref (b + 23), .ref (b + 24), .ref (b + 25), .ref (b + 26), .ref (b + 27), .ref (b + 28), .ref (b + 29), .ref (b + 30), .ref (b + 31), .null]
def mf_33 (b : Nat) : List Value := [.int (nI 0), .ref (b + 1), .ref (b + 2), .ref (b + 3), .ref (b + 4), .ref (b + 5), .int (nI 0), .ref (b + 6), .ref (b + 7), .ref (b + 8), .ref (b + 9), .int (nI 0), .ref (b + 10), .ref (b + 11), .ref (b + 12), .ref (b + 13), .ref (b + 14), .ref (b + 15), .ref (b + 16), .int (nI 0), .ref (b + 17), .ref (b + 18), .int (nI 0), .int (nI 0), .int (nI 3), .ref (b + 19), .ref (b + 20), .ref (b + 21), .ref (b + 22), .ref (b + 23), .ref (b + 24), .ref (b + 25), .ref (b + 26), .ref (b + 27), .ref (b + 28), .ref (b + 29), .ref (b + 30), .ref (b + 31), .ref (b + 32)]
set_option maxHeartbeats 4000000 in
set_option maxRecDepth 100000 in
theorem c_Model_init (l : Launch) (q : xg_T) (b : Nat) : ct_M l y_Model_init b_Model_init 1 rc_Model q b 6 [.int (nI 0), .null, .null, .null, .null, .null, .int (nI 0), .null, .null, .null, .null, .int (nI 0), .null, .null, .null, .null, .null, .null, .null, .int (nI 0), .null, .null, .int (nI 0), .int (nI 0), .int (nI 0), .null, .null, .null, .null, .null, .null, .null, .null, .null, .null, .null, .null, .null, .null] 33 (cy_M q b) := by
  refine ct_met (by decide) rfl (by decide) ?_
  intro p e s m below meth c ls hC hin hK hs hZ hl
  have hC : zz_C p s m _ meth c b_Model_init 1 none "TreeCoverForgeModel" := hC
  have hx_ := hC.1
  have hb_ := hC.2.1
  have hZ := hZ.congr (Y' := ct_y 6 (mf_0 b) (cy_M q b)) (fun i hi => by rw [show i = 0 by omega]; rfl)
  refine ct_obj hC hl rfl wd_506 w_oi w_oc d_Model_init_0 d_Model_init_1 (by decide) (by decide) ?_
  refine lv_aload_n hx_ hb_ d_Model_init_4 rfl (lv_at hl 0 rfl) ?_
  refine lv_bipush (v := nI 24) hx_ hb_ d_Model_init_5 (by decide) ?_
  refine ct_newa (atype := .int) (N := 24) (a0 := (24, .inl (lj_M.1 1))) (n1 := 2) (cells1 := 1) (slots1 := 24) hC hZ w_arI hK.fI rfl (by decide) (cy_ai (fun _ => lj_M0 (fun h => absurd h.1 (by decide)))) (by decide) rfl rfl rfl rfl (by decide) (by decide) d_Model_init_7 (fun H hZ => ?_)
  refine ct_put hC hK.1 hZ (by decide) rfl hin_Model t_Model t_Model_ok n_Model 1 (by decide) wd_508 rfl (Or.inr ⟨rfl, hin, rfl⟩) (t_Model_ok 1 (by decide)) rfl rfl (Nat.le_of_ble_eq_true rfl) d_Model_init_9 (fun H locs hZ => ?_)
  have hZ : ct_Z q.1 xg_cl b 2 (ct_y 6 (mf_1 b) (cy_M q b)) s.heap H locs := hZ
  refine lv_aload_n hx_ hb_ d_Model_init_12 rfl (lv_at hl 0 rfl) ?_
  refine lv_bipush (v := nI 24) hx_ hb_ d_Model_init_13 (by decide) ?_
  refine ct_newa (atype := .int) (N := 24) (a0 := (24, .inl (lj_M.1 2))) (n1 := 3) (cells1 := 2) (slots1 := 48) hC hZ w_arI hK.fI rfl (by decide) (cy_ai (fun _ => lj_M0 (fun h => absurd h.1 (by decide)))) (by decide) rfl rfl rfl rfl (by decide) (by decide) d_Model_init_15 (fun H hZ => ?_)
  refine ct_put hC hK.1 hZ (by decide) rfl hin_Model t_Model t_Model_ok n_Model 2 (by decide) wd_509 rfl (Or.inr ⟨rfl, hin, rfl⟩) (t_Model_ok 2 (by decide)) rfl rfl (Nat.le_of_ble_eq_true rfl) d_Model_init_17 (fun H locs hZ => ?_)
  have hZ : ct_Z q.1 xg_cl b 3 (ct_y 6 (mf_2 b) (cy_M q b)) s.heap H locs := hZ
  refine lv_aload_n hx_ hb_ d_Model_init_20 rfl (lv_at hl 0 rfl) ?_
  refine lv_bipush (v := nI 24) hx_ hb_ d_Model_init_21 (by decide) ?_
  refine ct_newa (atype := .int) (N := 24) (a0 := (24, .inl (lj_M.1 3))) (n1 := 4) (cells1 := 3) (slots1 := 72) hC hZ w_arI hK.fI rfl (by decide) (cy_ai (fun _ => lj_M0 (fun h => absurd h.1 (by decide)))) (by decide) rfl rfl rfl rfl (by decide) (by decide) d_Model_init_23 (fun H hZ => ?_)
  refine ct_put hC hK.1 hZ (by decide) rfl hin_Model t_Model t_Model_ok n_Model 3 (by decide) wd_510 rfl (Or.inr ⟨rfl, hin, rfl⟩) (t_Model_ok 3 (by decide)) rfl rfl (Nat.le_of_ble_eq_true rfl) d_Model_init_25 (fun H locs hZ => ?_)
  have hZ : ct_Z q.1 xg_cl b 4 (ct_y 6 (mf_3 b) (cy_M q b)) s.heap H locs := hZ
  refine lv_aload_n hx_ hb_ d_Model_init_28 rfl (lv_at hl 0 rfl) ?_
  refine lv_bipush (v := nI 24) hx_ hb_ d_Model_init_29 (by decide) ?_
  refine ct_newa (atype := .int) (N := 24) (a0 := (24, .inl (lj_M.1 4))) (n1 := 5) (cells1 := 4) (slots1 := 96) hC hZ w_arI hK.fI rfl (by decide) (cy_ai (fun _ => lj_M0 (fun h => absurd h.1 (by decide)))) (by decide) rfl rfl rfl rfl (by decide) (by decide) d_Model_init_31 (fun H hZ => ?_)
  refine ct_put hC hK.1 hZ (by decide) rfl hin_Model t_Model t_Model_ok n_Model 4 (by decide) wd_511 rfl (Or.inr ⟨rfl, hin, rfl⟩) (t_Model_ok 4 (by decide)) rfl rfl (Nat.le_of_ble_eq_true rfl) d_Model_init_33 (fun H locs hZ => ?_)
  have hZ : ct_Z q.1 xg_cl b 5 (ct_y 6 (mf_4 b) (cy_M q b)) s.heap H locs := hZ
  refine lv_aload_n hx_ hb_ d_Model_init_36 rfl (lv_at hl 0 rfl) ?_
  refine lv_bipush (v := nI 24) hx_ hb_ d_Model_init_37 (by decide) ?_
  refine ct_newa (atype := .int) (N := 24) (a0 := (24, .inl (lj_M.1 5))) (n1 := 6) (cells1 := 5) (slots1 := 120) hC hZ w_arI hK.fI rfl (by decide) (cy_ai (fun _ => lj_M0 (fun h => absurd h.1 (by decide)))) (by decide) rfl rfl rfl rfl (by decide) (by decide) d_Model_init_39 (fun H hZ => ?_)
  refine ct_put hC hK.1 hZ (by decide) rfl hin_Model t_Model t_Model_ok n_Model 5 (by decide) wd_512 rfl (Or.inr ⟨rfl, hin, rfl⟩) (t_Model_ok 5 (by decide)) rfl rfl (Nat.le_of_ble_eq_true rfl) d_Model_init_41 (fun H locs hZ => ?_)
  have hZ : ct_Z q.1 xg_cl b 6 (ct_y 6 (mf_5 b) (cy_M q b)) s.heap H locs := hZ
  refine lv_aload_n hx_ hb_ d_Model_init_44 rfl (lv_at hl 0 rfl) ?_
  refine lv_bipush (v := nI 40) hx_ hb_ d_Model_init_45 (by decide) ?_
  refine ct_newa (atype := .int) (N := 40) (a0 := (40, .inl (lj_M.1 6))) (n1 := 7) (cells1 := 6) (slots1 := 160) hC hZ w_arI hK.fI rfl (by decide) (cy_ai (fun _ => lj_M0 (fun h => absurd h.1 (by decide)))) (by decide) rfl rfl rfl rfl (by decide) (by decide) d_Model_init_47 (fun H hZ => ?_)
  refine ct_put hC hK.1 hZ (by decide) rfl hin_Model t_Model t_Model_ok n_Model 7 (by decide) wd_514 rfl (Or.inr ⟨rfl, hin, rfl⟩) (t_Model_ok 7 (by decide)) rfl rfl (Nat.le_of_ble_eq_true rfl) d_Model_init_49 (fun H locs hZ => ?_)
  have hZ : ct_Z q.1 xg_cl b 7 (ct_y 6 (mf_6 b) (cy_M q b)) s.heap H locs := hZ
  refine lv_aload_n hx_ hb_ d_Model_init_52 rfl (lv_at hl 0 rfl) ?_
  refine lv_bipush (v := nI 40) hx_ hb_ d_Model_init_53 (by decide) ?_
  refine ct_newa (atype := .int) (N := 40) (a0 := (40, .inl (lj_M.1 7))) (n1 := 8) (cells1 := 7) (slots1 := 200) hC hZ w_arI hK.fI rfl (by decide) (cy_ai (fun _ => lj_M0 (fun h => absurd h.1 (by decide)))) (by decide) rfl rfl rfl rfl (by decide) (by decide) d_Model_init_55 (fun H hZ => ?_)
  refine ct_put hC hK.1 hZ (by decide) rfl hin_Model t_Model t_Model_ok n_Model 8 (by decide) wd_515 rfl (Or.inr ⟨rfl, hin, rfl⟩) (t_Model_ok 8 (by decide)) rfl rfl (Nat.le_of_ble_eq_true rfl) d_Model_init_57 (fun H locs hZ => ?_)
  have hZ : ct_Z q.1 xg_cl b 8 (ct_y 6 (mf_7 b) (cy_M q b)) s.heap H locs := hZ
  refine lv_aload_n hx_ hb_ d_Model_init_60 rfl (lv_at hl 0 rfl) ?_
  refine lv_bipush (v := nI 40) hx_ hb_ d_Model_init_61 (by decide) ?_
  refine ct_newa (atype := .int) (N := 40) (a0 := (40, .inl (lj_M.1 8))) (n1 := 9) (cells1 := 8) (slots1 := 240) hC hZ w_arI hK.fI rfl (by decide) (cy_ai (fun _ => lj_M0 (fun h => absurd h.1 (by decide)))) (by decide) rfl rfl rfl rfl (by decide) (by decide) d_Model_init_63 (fun H hZ => ?_)
  refine ct_put hC hK.1 hZ (by decide) rfl hin_Model t_Model t_Model_ok n_Model 9 (by decide) wd_516 rfl (Or.inr ⟨rfl, hin, rfl⟩) (t_Model_ok 9 (by decide)) rfl rfl (Nat.le_of_ble_eq_true rfl) d_Model_init_65 (fun H locs hZ => ?_)
  have hZ : ct_Z q.1 xg_cl b 9 (ct_y 6 (mf_8 b) (cy_M q b)) s.heap H locs := hZ
  refine lv_aload_n hx_ hb_ d_Model_init_68 rfl (lv_at hl 0 rfl) ?_
  refine lv_bipush (v := nI 40) hx_ hb_ d_Model_init_69 (by decide) ?_
  refine ct_newa (atype := .int) (N := 40) (a0 := (40, .inl (lj_M.1 9))) (n1 := 10) (cells1 := 9) (slots1 := 280) hC hZ w_arI hK.fI rfl (by decide) (cy_ai (fun _ => lj_M0 (fun h => absurd h.1 (by decide)))) (by decide) rfl rfl rfl rfl (by decide) (by decide) d_Model_init_71 (fun H hZ => ?_)
  refine ct_put hC hK.1 hZ (by decide) rfl hin_Model t_Model t_Model_ok n_Model 10 (by decide) wd_517 rfl (Or.inr ⟨rfl, hin, rfl⟩) (t_Model_ok 10 (by decide)) rfl rfl (Nat.le_of_ble_eq_true rfl) d_Model_init_73 (fun H locs hZ => ?_)
  have hZ : ct_Z q.1 xg_cl b 10 (ct_y 6 (mf_9 b) (cy_M q b)) s.heap H locs := hZ
  refine lv_aload_n hx_ hb_ d_Model_init_76 rfl (lv_at hl 0 rfl) ?_
  refine lv_bipush (v := nI 40) hx_ hb_ d_Model_init_77 (by decide) ?_
  refine ct_newa (atype := .int) (N := 40) (a0 := (40, .inl (lj_M.1 10))) (n1 := 11) (cells1 := 10) (slots1 := 320) hC hZ w_arI hK.fI rfl (by decide) (cy_ai (fun _ => lj_M0 (fun h => absurd h.1 (by decide)))) (by decide) rfl rfl rfl rfl (by decide) (by decide) d_Model_init_79 (fun H hZ => ?_)
  refine ct_put hC hK.1 hZ (by decide) rfl hin_Model t_Model t_Model_ok n_Model 12 (by decide) wd_519 rfl (Or.inr ⟨rfl, hin, rfl⟩) (t_Model_ok 12 (by decide)) rfl rfl (Nat.le_of_ble_eq_true rfl) d_Model_init_81 (fun H locs hZ => ?_)
  have hZ : ct_Z q.1 xg_cl b 11 (ct_y 6 (mf_10 b) (cy_M q b)) s.heap H locs := hZ
  refine lv_aload_n hx_ hb_ d_Model_init_84 rfl (lv_at hl 0 rfl) ?_
  refine lv_sipush (v := nI 160) hx_ hb_ d_Model_init_85 (by decide) ?_
  refine ct_newa (atype := .long) (N := 160) (a0 := (160, .inr (.inl (lj_M.2 11)))) (n1 := 12) (cells1 := 11) (slots1 := 480) hC hZ w_arJ hK.fJ rfl (by decide) (cy_al (fun _ => rfl)) (by decide) rfl rfl rfl rfl (by decide) (by decide) d_Model_init_88 (fun H hZ => ?_)
  refine ct_put hC hK.1 hZ (by decide) rfl hin_Model t_Model t_Model_ok n_Model 13 (by decide) wd_520 rfl (Or.inr ⟨rfl, hin, rfl⟩) (t_Model_ok 13 (by decide)) rfl rfl (Nat.le_of_ble_eq_true rfl) d_Model_init_90 (fun H locs hZ => ?_)
  have hZ : ct_Z q.1 xg_cl b 12 (ct_y 6 (mf_11 b) (cy_M q b)) s.heap H locs := hZ
  refine lv_aload_n hx_ hb_ d_Model_init_93 rfl (lv_at hl 0 rfl) ?_
  refine lv_sipush (v := nI 160) hx_ hb_ d_Model_init_94 (by decide) ?_
  refine ct_newa (atype := .int) (N := 160) (a0 := (160, .inl (lj_M.1 12))) (n1 := 13) (cells1 := 12) (slots1 := 640) hC hZ w_arI hK.fI rfl (by decide) (cy_ai (fun _ => lj_M0 (fun h => absurd h.1 (by decide)))) (by decide) rfl rfl rfl rfl (by decide) (by decide) d_Model_init_97 (fun H hZ => ?_)
  refine ct_put hC hK.1 hZ (by decide) rfl hin_Model t_Model t_Model_ok n_Model 14 (by decide) wd_521 rfl (Or.inr ⟨rfl, hin, rfl⟩) (t_Model_ok 14 (by decide)) rfl rfl (Nat.le_of_ble_eq_true rfl) d_Model_init_99 (fun H locs hZ => ?_)
  have hZ : ct_Z q.1 xg_cl b 13 (ct_y 6 (mf_12 b) (cy_M q b)) s.heap H locs := hZ
  refine lv_aload_n hx_ hb_ d_Model_init_102 rfl (lv_at hl 0 rfl) ?_
  refine lv_iconst (v := nI 4) hx_ hb_ d_Model_init_103 (by decide) ?_
  refine ct_newa (atype := .long) (N := 4) (a0 := (4, .inr (.inl (lj_M.2 13)))) (n1 := 14) (cells1 := 13) (slots1 := 644) hC hZ w_arJ hK.fJ rfl (by decide) (cy_al (fun _ => rfl)) (by decide) rfl rfl rfl rfl (by decide) (by decide) d_Model_init_104 (fun H hZ => ?_)
  refine ct_put hC hK.1 hZ (by decide) rfl hin_Model t_Model t_Model_ok n_Model 15 (by decide) wd_522 rfl (Or.inr ⟨rfl, hin, rfl⟩) (t_Model_ok 15 (by decide)) rfl rfl (Nat.le_of_ble_eq_true rfl) d_Model_init_106 (fun H locs hZ => ?_)
  have hZ : ct_Z q.1 xg_cl b 14 (ct_y 6 (mf_13 b) (cy_M q b)) s.heap H locs := hZ
  refine lv_aload_n hx_ hb_ d_Model_init_109 rfl (lv_at hl 0 rfl) ?_
  refine lv_iconst (v := nI 4) hx_ hb_ d_Model_init_110 (by decide) ?_
  refine ct_newa (atype := .long) (N := 4) (a0 := (4, .inr (.inl (lj_M.2 14)))) (n1 := 15) (cells1 := 14) (slots1 := 648) hC hZ w_arJ hK.fJ rfl (by decide) (cy_al (fun _ => rfl)) (by decide) rfl rfl rfl rfl (by decide) (by decide) d_Model_init_111 (fun H hZ => ?_)
  refine ct_put hC hK.1 hZ (by decide) rfl hin_Model t_Model t_Model_ok n_Model 16 (by decide) wd_523 rfl (Or.inr ⟨rfl, hin, rfl⟩) (t_Model_ok 16 (by decide)) rfl rfl (Nat.le_of_ble_eq_true rfl) d_Model_init_113 (fun H locs hZ => ?_)
  have hZ : ct_Z q.1 xg_cl b 15 (ct_y 6 (mf_14 b) (cy_M q b)) s.heap H locs := hZ
  refine lv_aload_n hx_ hb_ d_Model_init_116 rfl (lv_at hl 0 rfl) ?_
  refine lv_iconst (v := nI 4) hx_ hb_ d_Model_init_117 (by decide) ?_
  refine ct_newa (atype := .long) (N := 4) (a0 := (4, .inr (.inl (lj_M.2 15)))) (n1 := 16) (cells1 := 15) (slots1 := 652) hC hZ w_arJ hK.fJ rfl (by decide) (cy_al (fun _ => rfl)) (by decide) rfl rfl rfl rfl (by decide) (by decide) d_Model_init_118 (fun H hZ => ?_)
  refine ct_put hC hK.1 hZ (by decide) rfl hin_Model t_Model t_Model_ok n_Model 17 (by decide) wd_524 rfl (Or.inr ⟨rfl, hin, rfl⟩) (t_Model_ok 17 (by decide)) rfl rfl (Nat.le_of_ble_eq_true rfl) d_Model_init_120 (fun H locs hZ => ?_)
  have hZ : ct_Z q.1 xg_cl b 16 (ct_y 6 (mf_15 b) (cy_M q b)) s.heap H locs := hZ
  refine lv_aload_n hx_ hb_ d_Model_init_123 rfl (lv_at hl 0 rfl) ?_
  refine lv_iconst (v := nI 4) hx_ hb_ d_Model_init_124 (by decide) ?_
  refine ct_newa (atype := .int) (N := 4) (a0 := (4, .inl (lj_M.1 16))) (n1 := 17) (cells1 := 16) (slots1 := 656) hC hZ w_arI hK.fI rfl (by decide) (cy_ai (fun _ => lj_M0 (fun h => absurd h.1 (by decide)))) (by decide) rfl rfl rfl rfl (by decide) (by decide) d_Model_init_125 (fun H hZ => ?_)
  refine ct_put hC hK.1 hZ (by decide) rfl hin_Model t_Model t_Model_ok n_Model 18 (by decide) wd_525 rfl (Or.inr ⟨rfl, hin, rfl⟩) (t_Model_ok 18 (by decide)) rfl rfl (Nat.le_of_ble_eq_true rfl) d_Model_init_127 (fun H locs hZ => ?_)
  have hZ : ct_Z q.1 xg_cl b 17 (ct_y 6 (mf_16 b) (cy_M q b)) s.heap H locs := hZ
  refine lv_aload_n hx_ hb_ d_Model_init_130 rfl (lv_at hl 0 rfl) ?_
  refine lv_sipush (v := nI 164) hx_ hb_ d_Model_init_131 (by decide) ?_
  refine ct_newa (atype := .long) (N := 164) (a0 := (164, .inr (.inl (lj_M.2 17)))) (n1 := 18) (cells1 := 17) (slots1 := 820) hC hZ w_arJ hK.fJ rfl (by decide) (cy_al (fun _ => rfl)) (by decide) rfl rfl rfl rfl (by decide) (by decide) d_Model_init_134 (fun H hZ => ?_)
  refine ct_put hC hK.1 hZ (by decide) rfl hin_Model t_Model t_Model_ok n_Model 20 (by decide) wd_527 rfl (Or.inr ⟨rfl, hin, rfl⟩) (t_Model_ok 20 (by decide)) rfl rfl (Nat.le_of_ble_eq_true rfl) d_Model_init_136 (fun H locs hZ => ?_)
  have hZ : ct_Z q.1 xg_cl b 18 (ct_y 6 (mf_17 b) (cy_M q b)) s.heap H locs := hZ
  refine lv_aload_n hx_ hb_ d_Model_init_139 rfl (lv_at hl 0 rfl) ?_
  refine lv_sipush (v := nI 164) hx_ hb_ d_Model_init_140 (by decide) ?_
  refine ct_newa (atype := .int) (N := 164) (a0 := (164, .inl (lj_M.1 18))) (n1 := 19) (cells1 := 18) (slots1 := 984) hC hZ w_arI hK.fI rfl (by decide) (cy_ai (fun _ => lj_M0 (fun h => absurd h.1 (by decide)))) (by decide) rfl rfl rfl rfl (by decide) (by decide) d_Model_init_143 (fun H hZ => ?_)
  refine ct_put hC hK.1 hZ (by decide) rfl hin_Model t_Model t_Model_ok n_Model 21 (by decide) wd_528 rfl (Or.inr ⟨rfl, hin, rfl⟩) (t_Model_ok 21 (by decide)) rfl rfl (Nat.le_of_ble_eq_true rfl) d_Model_init_145 (fun H locs hZ => ?_)
  have hZ : ct_Z q.1 xg_cl b 19 (ct_y 6 (mf_18 b) (cy_M q b)) s.heap H locs := hZ
  refine lv_aload_n hx_ hb_ d_Model_init_148 rfl (lv_at hl 0 rfl) ?_
  refine lv_iconst (v := nI 3) hx_ hb_ d_Model_init_149 (by decide) ?_
  refine ct_put hC hK.1 hZ (by decide) rfl hin_Model t_Model t_Model_ok n_Model 24 (by decide) wd_531 rfl (Or.inl rfl) (t_Model_ok 24 (by decide)) rfl rfl (Nat.le_of_ble_eq_true rfl) d_Model_init_150 (fun H locs hZ => ?_)
  have hZ : ct_Z q.1 xg_cl b 19 (ct_y 6 (mf_19 b) (cy_M q b)) s.heap H locs := hZ
  refine lv_aload_n hx_ hb_ d_Model_init_153 rfl (lv_at hl 0 rfl) ?_
  refine lv_sipush (v := nI 160) hx_ hb_ d_Model_init_154 (by decide) ?_
  refine ct_newa (atype := .int) (N := 160) (a0 := (160, .inl (lj_M.1 19))) (n1 := 20) (cells1 := 19) (slots1 := 1144) hC hZ w_arI hK.fI rfl (by decide) (cy_ai (fun _ => lj_M0 (fun h => absurd h.1 (by decide)))) (by decide) rfl rfl rfl rfl (by decide) (by decide) d_Model_init_157 (fun H hZ => ?_)
  refine ct_put hC hK.1 hZ (by decide) rfl hin_Model t_Model t_Model_ok n_Model 25 (by decide) wd_532 rfl (Or.inr ⟨rfl, hin, rfl⟩) (t_Model_ok 25 (by decide)) rfl rfl (Nat.le_of_ble_eq_true rfl) d_Model_init_159 (fun H locs hZ => ?_)
  have hZ : ct_Z q.1 xg_cl b 20 (ct_y 6 (mf_20 b) (cy_M q b)) s.heap H locs := hZ
  refine lv_aload_n hx_ hb_ d_Model_init_162 rfl (lv_at hl 0 rfl) ?_
  refine lv_sipush (v := nI 160) hx_ hb_ d_Model_init_163 (by decide) ?_
  refine ct_newa (atype := .int) (N := 160) (a0 := (160, .inl (lj_M.1 20))) (n1 := 21) (cells1 := 20) (slots1 := 1304) hC hZ w_arI hK.fI rfl (by decide) (cy_ai (fun _ => lj_M0 (fun h => absurd h.1 (by decide)))) (by decide) rfl rfl rfl rfl (by decide) (by decide) d_Model_init_166 (fun H hZ => ?_)
  refine ct_put hC hK.1 hZ (by decide) rfl hin_Model t_Model t_Model_ok n_Model 26 (by decide) wd_533 rfl (Or.inr ⟨rfl, hin, rfl⟩) (t_Model_ok 26 (by decide)) rfl rfl (Nat.le_of_ble_eq_true rfl) d_Model_init_168 (fun H locs hZ => ?_)
  have hZ : ct_Z q.1 xg_cl b 21 (ct_y 6 (mf_21 b) (cy_M q b)) s.heap H locs := hZ
  refine lv_aload_n hx_ hb_ d_Model_init_171 rfl (lv_at hl 0 rfl) ?_
  refine lv_sipush (v := nI 160) hx_ hb_ d_Model_init_172 (by decide) ?_
  refine ct_newa (atype := .int) (N := 160) (a0 := (160, .inl (lj_M.1 21))) (n1 := 22) (cells1 := 21) (slots1 := 1464) hC hZ w_arI hK.fI rfl (by decide) (cy_ai (fun _ => lj_M0 (fun h => absurd h.1 (by decide)))) (by decide) rfl rfl rfl rfl (by decide) (by decide) d_Model_init_175 (fun H hZ => ?_)
  refine ct_put hC hK.1 hZ (by decide) rfl hin_Model t_Model t_Model_ok n_Model 27 (by decide) wd_534 rfl (Or.inr ⟨rfl, hin, rfl⟩) (t_Model_ok 27 (by decide)) rfl rfl (Nat.le_of_ble_eq_true rfl) d_Model_init_177 (fun H locs hZ => ?_)
  have hZ : ct_Z q.1 xg_cl b 22 (ct_y 6 (mf_22 b) (cy_M q b)) s.heap H locs := hZ
  refine lv_aload_n hx_ hb_ d_Model_init_180 rfl (lv_at hl 0 rfl) ?_
  refine lv_sipush (v := nI 160) hx_ hb_ d_Model_init_181 (by decide) ?_
  refine ct_newa (atype := .int) (N := 160) (a0 := (160, .inl (lj_M.1 22))) (n1 := 23) (cells1 := 22) (slots1 := 1624) hC hZ w_arI hK.fI rfl (by decide) (cy_ai (fun _ => lj_M0 (fun h => absurd h.1 (by decide)))) (by decide) rfl rfl rfl rfl (by decide) (by decide) d_Model_init_184 (fun H hZ => ?_)
  refine ct_put hC hK.1 hZ (by decide) rfl hin_Model t_Model t_Model_ok n_Model 28 (by decide) wd_535 rfl (Or.inr ⟨rfl, hin, rfl⟩) (t_Model_ok 28 (by decide)) rfl rfl (Nat.le_of_ble_eq_true rfl) d_Model_init_186 (fun H locs hZ => ?_)
  have hZ : ct_Z q.1 xg_cl b 23 (ct_y 6 (mf_23 b) (cy_M q b)) s.heap H locs := hZ
  refine lv_aload_n hx_ hb_ d_Model_init_189 rfl (lv_at hl 0 rfl) ?_
  refine lv_sipush (v := nI 160) hx_ hb_ d_Model_init_190 (by decide) ?_
  refine ct_newa (atype := .int) (N := 160) (a0 := (160, .inl (lj_M.1 23))) (n1 := 24) (cells1 := 23) (slots1 := 1784) hC hZ w_arI hK.fI rfl (by decide) (cy_ai (fun _ => lj_M0 (fun h => absurd h.1 (by decide)))) (by decide) rfl rfl rfl rfl (by decide) (by decide) d_Model_init_193 (fun H hZ => ?_)
  refine ct_put hC hK.1 hZ (by decide) rfl hin_Model t_Model t_Model_ok n_Model 29 (by decide) wd_536 rfl (Or.inr ⟨rfl, hin, rfl⟩) (t_Model_ok 29 (by decide)) rfl rfl (Nat.le_of_ble_eq_true rfl) d_Model_init_195 (fun H locs hZ => ?_)
  have hZ : ct_Z q.1 xg_cl b 24 (ct_y 6 (mf_24 b) (cy_M q b)) s.heap H locs := hZ
  refine lv_aload_n hx_ hb_ d_Model_init_198 rfl (lv_at hl 0 rfl) ?_
  refine lv_sipush (v := nI 160) hx_ hb_ d_Model_init_199 (by decide) ?_
  refine ct_newa (atype := .int) (N := 160) (a0 := (160, .inl (lj_M.1 24))) (n1 := 25) (cells1 := 24) (slots1 := 1944) hC hZ w_arI hK.fI rfl (by decide) (cy_ai (fun _ => lj_M0 (fun h => absurd h.1 (by decide)))) (by decide) rfl rfl rfl rfl (by decide) (by decide) d_Model_init_202 (fun H hZ => ?_)
  refine ct_put hC hK.1 hZ (by decide) rfl hin_Model t_Model t_Model_ok n_Model 30 (by decide) wd_537 rfl (Or.inr ⟨rfl, hin, rfl⟩) (t_Model_ok 30 (by decide)) rfl rfl (Nat.le_of_ble_eq_true rfl) d_Model_init_204 (fun H locs hZ => ?_)
  have hZ : ct_Z q.1 xg_cl b 25 (ct_y 6 (mf_25 b) (cy_M q b)) s.heap H locs := hZ
  refine lv_aload_n hx_ hb_ d_Model_init_207 rfl (lv_at hl 0 rfl) ?_
  refine lv_sipush (v := nI 160) hx_ hb_ d_Model_init_208 (by decide) ?_
  refine ct_newa (atype := .int) (N := 160) (a0 := (160, .inl (lj_M.1 25))) (n1 := 26) (cells1 := 25) (slots1 := 2104) hC hZ w_arI hK.fI rfl (by decide) (cy_ai (fun _ => lj_M0 (fun h => absurd h.1 (by decide)))) (by decide) rfl rfl rfl rfl (by decide) (by decide) d_Model_init_211 (fun H hZ => ?_)
  refine ct_put hC hK.1 hZ (by decide) rfl hin_Model t_Model t_Model_ok n_Model 31 (by decide) wd_538 rfl (Or.inr ⟨rfl, hin, rfl⟩) (t_Model_ok 31 (by decide)) rfl rfl (Nat.le_of_ble_eq_true rfl) d_Model_init_213 (fun H locs hZ => ?_)
  have hZ : ct_Z q.1 xg_cl b 26 (ct_y 6 (mf_26 b) (cy_M q b)) s.heap H locs := hZ
  refine lv_aload_n hx_ hb_ d_Model_init_216 rfl (lv_at hl 0 rfl) ?_
  refine lv_sipush (v := nI 160) hx_ hb_ d_Model_init_217 (by decide) ?_
  refine ct_newa (atype := .int) (N := 160) (a0 := (160, .inl (lj_M.1 26))) (n1 := 27) (cells1 := 26) (slots1 := 2264) hC hZ w_arI hK.fI rfl (by decide) (cy_ai (fun _ => lj_M0 (fun h => absurd h.1 (by decide)))) (by decide) rfl rfl rfl rfl (by decide) (by decide) d_Model_init_220 (fun H hZ => ?_)
  refine ct_put hC hK.1 hZ (by decide) rfl hin_Model t_Model t_Model_ok n_Model 32 (by decide) wd_539 rfl (Or.inr ⟨rfl, hin, rfl⟩) (t_Model_ok 32 (by decide)) rfl rfl (Nat.le_of_ble_eq_true rfl) d_Model_init_222 (fun H locs hZ => ?_)
  have hZ : ct_Z q.1 xg_cl b 27 (ct_y 6 (mf_27 b) (cy_M q b)) s.heap H locs := hZ
  refine lv_aload_n hx_ hb_ d_Model_init_225 rfl (lv_at hl 0 rfl) ?_
  refine lv_sipush (v := nI 160) hx_ hb_ d_Model_init_226 (by decide) ?_
  refine ct_newa (atype := .int) (N := 160) (a0 := (160, .inl (lj_M.1 27))) (n1 := 28) (cells1 := 27) (slots1 := 2424) hC hZ w_arI hK.fI rfl (by decide) (cy_ai (fun _ => lj_M0 (fun h => absurd h.1 (by decide)))) (by decide) rfl rfl rfl rfl (by decide) (by decide) d_Model_init_229 (fun H hZ => ?_)
  refine ct_put hC hK.1 hZ (by decide) rfl hin_Model t_Model t_Model_ok n_Model 33 (by decide) wd_540 rfl (Or.inr ⟨rfl, hin, rfl⟩) (t_Model_ok 33 (by decide)) rfl rfl (Nat.le_of_ble_eq_true rfl) d_Model_init_231 (fun H locs hZ => ?_)
  have hZ : ct_Z q.1 xg_cl b 28 (ct_y 6 (mf_28 b) (cy_M q b)) s.heap H locs := hZ
  refine lv_aload_n hx_ hb_ d_Model_init_234 rfl (lv_at hl 0 rfl) ?_
  refine lv_bipush (v := nI 40) hx_ hb_ d_Model_init_235 (by decide) ?_
  refine ct_newa (atype := .int) (N := 40) (a0 := (40, .inl (lj_M.1 28))) (n1 := 29) (cells1 := 28) (slots1 := 2464) hC hZ w_arI hK.fI rfl (by decide) (cy_ai (fun _ => lj_M0 (fun h => absurd h.1 (by decide)))) (by decide) rfl rfl rfl rfl (by decide) (by decide) d_Model_init_237 (fun H hZ => ?_)
  refine ct_put hC hK.1 hZ (by decide) rfl hin_Model t_Model t_Model_ok n_Model 34 (by decide) wd_541 rfl (Or.inr ⟨rfl, hin, rfl⟩) (t_Model_ok 34 (by decide)) rfl rfl (Nat.le_of_ble_eq_true rfl) d_Model_init_239 (fun H locs hZ => ?_)
  have hZ : ct_Z q.1 xg_cl b 29 (ct_y 6 (mf_29 b) (cy_M q b)) s.heap H locs := hZ
  refine lv_aload_n hx_ hb_ d_Model_init_242 rfl (lv_at hl 0 rfl) ?_
  refine lv_bipush (v := nI 40) hx_ hb_ d_Model_init_243 (by decide) ?_
  refine ct_newa (atype := .int) (N := 40) (a0 := (40, .inl (lj_M.1 29))) (n1 := 30) (cells1 := 29) (slots1 := 2504) hC hZ w_arI hK.fI rfl (by decide) (cy_ai (fun _ => lj_M0 (fun h => absurd h.1 (by decide)))) (by decide) rfl rfl rfl rfl (by decide) (by decide) d_Model_init_245 (fun H hZ => ?_)
  refine ct_put hC hK.1 hZ (by decide) rfl hin_Model t_Model t_Model_ok n_Model 35 (by decide) wd_542 rfl (Or.inr ⟨rfl, hin, rfl⟩) (t_Model_ok 35 (by decide)) rfl rfl (Nat.le_of_ble_eq_true rfl) d_Model_init_247 (fun H locs hZ => ?_)
  have hZ : ct_Z q.1 xg_cl b 30 (ct_y 6 (mf_30 b) (cy_M q b)) s.heap H locs := hZ
  refine lv_aload_n hx_ hb_ d_Model_init_250 rfl (lv_at hl 0 rfl) ?_
  refine lv_bipush (v := nI 8) hx_ hb_ d_Model_init_251 (by decide) ?_
  refine ct_newa (atype := .int) (N := 8) (a0 := (8, .inl (lj_M.1 30))) (n1 := 31) (cells1 := 30) (slots1 := 2512) hC hZ w_arI hK.fI rfl (by decide) (cy_ai (fun _ => lj_M0 (fun h => absurd h.1 (by decide)))) (by decide) rfl rfl rfl rfl (by decide) (by decide) d_Model_init_253 (fun H hZ => ?_)
  refine ct_put hC hK.1 hZ (by decide) rfl hin_Model t_Model t_Model_ok n_Model 36 (by decide) wd_543 rfl (Or.inr ⟨rfl, hin, rfl⟩) (t_Model_ok 36 (by decide)) rfl rfl (Nat.le_of_ble_eq_true rfl) d_Model_init_255 (fun H locs hZ => ?_)
  have hZ : ct_Z q.1 xg_cl b 31 (ct_y 6 (mf_31 b) (cy_M q b)) s.heap H locs := hZ
  refine lv_aload_n hx_ hb_ d_Model_init_258 rfl (lv_at hl 0 rfl) ?_
  refine lv_bipush (v := nI 8) hx_ hb_ d_Model_init_259 (by decide) ?_
  refine ct_newa (atype := .int) (N := 8) (a0 := (8, .inl (lj_M.1 31))) (n1 := 32) (cells1 := 31) (slots1 := 2520) hC hZ w_arI hK.fI rfl (by decide) (cy_ai (fun _ => lj_M0 (fun h => absurd h.1 (by decide)))) (by decide) rfl rfl rfl rfl (by decide) (by decide) d_Model_init_261 (fun H hZ => ?_)
  refine ct_put hC hK.1 hZ (by decide) rfl hin_Model t_Model t_Model_ok n_Model 37 (by decide) wd_544 rfl (Or.inr ⟨rfl, hin, rfl⟩) (t_Model_ok 37 (by decide)) rfl rfl (Nat.le_of_ble_eq_true rfl) d_Model_init_263 (fun H locs hZ => ?_)
  have hZ : ct_Z q.1 xg_cl b 32 (ct_y 6 (mf_32 b) (cy_M q b)) s.heap H locs := hZ
  refine lv_aload_n hx_ hb_ d_Model_init_266 rfl (lv_at hl 0 rfl) ?_
  refine lv_bipush (v := nI 40) hx_ hb_ d_Model_init_267 (by decide) ?_
  refine ct_newa (atype := .int) (N := 40) (a0 := (40, .inl (lj_M.1 32))) (n1 := 33) (cells1 := 32) (slots1 := 2560) hC hZ w_arI hK.fI rfl (by decide) (cy_ai (fun _ => lj_M0 (fun h => absurd h.1 (by decide)))) (by decide) rfl rfl rfl rfl (by decide) (by decide) d_Model_init_269 (fun H hZ => ?_)
  refine ct_put hC hK.1 hZ (by decide) rfl hin_Model t_Model t_Model_ok n_Model 38 (by decide) wd_545 rfl (Or.inr ⟨rfl, hin, rfl⟩) (t_Model_ok 38 (by decide)) rfl rfl (Nat.le_of_ble_eq_true rfl) d_Model_init_271 (fun H locs hZ => ?_)
  have hZ : ct_Z q.1 xg_cl b 33 (ct_y 6 (mf_33 b) (cy_M q b)) s.heap H locs := hZ
  refine ct_ret hC rfl (hZ.congr (fun i hi => ?_)) d_Model_init_274
  by_cases h : i = 0
  · subst h
    rfl
  · exact ct_yi h
