/-! The cells of the class's object (291 of them) and of the reference's (33): which cell is what. Laid by wip/whole/prog/names.py. -/
/-- class numbers, slots; addresses; the classes of int[], long[], Label[], int[][]; the table of arities -/
abbrev xg_T : Type := va_G × (Nat → Nat) × ClassId × ClassId × ClassId × ClassId × Nat
abbrev xg_cl : List vw_C := [(R_Forge, F_Forge, 6), (R_Book, F_Book, 8), (R_Label, F_Label, 2), (R_Table, F_Table, 4), (R_Pile, F_Pile, 10), (R_Code, F_Code, 15), (R_Model, F_Model, 39)]
abbrev xg_ty (q : xg_T) : List (ClassId × FieldType) := [(q.2.2.1, .int), (q.2.2.2.1, .long), (q.2.2.2.2.1, .object R_Label), (q.2.2.2.2.2.1, .array .int)]
def xy_L (q : xg_T) : zz_Y := fun c f g =>
  match c with
  | 0 => .inr (0, [.ref (q.2.1 1), .ref (q.2.1 18), .ref (q.2.1 25), .ref (q.2.1 27), .ref (q.2.1 41), .int (f 5)])
  | 1 => .inr (1, [.ref (q.2.1 2), .ref (q.2.1 3), .ref (q.2.1 4), .ref (q.2.1 5), .ref (q.2.1 6), .ref (q.2.1 7), .ref (q.2.1 8), .int (f 7)])
  | 2 => .inl (q.2.2.1, 24, .inl f)
  | 3 => .inl (q.2.2.1, 24, .inl f)
  | 4 => .inl (q.2.2.1, 24, .inl f)
  | 5 => .inl (q.2.2.1, 24, .inl f)
  | 6 => .inl (q.2.2.1, 24, .inl f)
  | 7 => .inl (q.2.2.2.2.2.1, 9, .inr (.inr (.inr (.inr (fun i => some (q.2.1 (9 + i)))))))
  | 8 => .inl (q.2.2.1, 9, .inl f)
  | 18 => .inr (4, [.ref (q.2.1 19), .ref (q.2.1 20), .ref (q.2.1 21), .ref (q.2.1 22), .ref (q.2.1 23), .ref (q.2.1 24), .ref (q.2.1 (42 + 3 * 40)), .int (f 7), .int (f 8), .int (f 9)])
  | 19 => .inl (q.2.2.1, 40, .inl f)
  | 20 => .inl (q.2.2.1, 40, .inl f)
  | 21 => .inl (q.2.2.1, 40, .inl f)
  | 22 => .inl (q.2.2.1, 40, .inl f)
  | 23 => .inl (q.2.2.1, 40, .inl f)
  | 24 => .inl (q.2.2.2.2.1, 40, .inr (.inr (.inr (.inr (fun i => some (q.2.1 (42 + 3 * i)))))))
  | 25 => .inr (3, [.ref (q.2.1 26), .ref (q.2.1 (42 + 3 * 41)), .int (f 2), .int (f 3)])
  | 26 => .inl (q.2.2.2.2.1, 41, .inr (.inr (.inr (.inr (fun i => some (q.2.1 (42 + 3 * (42 + i))))))))
  | 27 => .inr (5, [.ref (q.2.1 28), .ref (q.2.1 29), .ref (q.2.1 30), .ref (q.2.1 31), .ref (q.2.1 32), .ref (q.2.1 33), .ref (q.2.1 34), .ref (q.2.1 35), .ref (q.2.1 36), .ref (q.2.1 37), .ref (q.2.1 38), .ref (q.2.1 39), .ref (q.2.1 40), .int (f 13), .int (f 14)])
  | 28 => .inl (q.2.2.1, 160, .inl f)
  | 29 => .inl (q.2.2.1, 160, .inl f)
  | 30 => .inl (q.2.2.1, 160, .inl f)
  | 31 => .inl (q.2.2.1, 160, .inl f)
  | 32 => .inl (q.2.2.1, 160, .inl f)
  | 33 => .inl (q.2.2.1, 160, .inl f)
  | 34 => .inl (q.2.2.1, 160, .inl f)
  | 35 => .inl (q.2.2.1, 160, .inl f)
  | 36 => .inl (q.2.2.1, 164, .inl f)
  | 37 => .inl (q.2.2.1, 4, .inl f)
  | 38 => .inl (q.2.2.1, 40, .inl f)
  | 39 => .inl (q.2.2.1, 40, .inl f)
  | 40 => .inl (q.2.2.1, 4, .inl f)
  | _ => .inl (q.2.2.1, 8, .inl f)
def xy_Y (q : xg_T) : zz_Y := fun c f g =>
  if 42 ≤ c then
    if (c - 42) % 3 = 0 then .inr (2, [.ref (q.2.1 (c + 1)), .ref (q.2.1 (c + 2))])
    else if (c - 42) % 3 = 1 then .inl (q.2.2.2.1, 4, .inr (.inl g))
    else .inl (q.2.2.1, 4, .inl f)
  else if 9 ≤ c ∧ c < 18 then .inl (q.2.2.1, 24, .inl f)
  else xy_L q c f g
def xg_G (q : xg_T) : zz_G := (q.1, xg_cl, xg_ty q, 291, q.2.1, xy_Y q, q.2.2.2.2.2.2)
theorem xc_0 (q : xg_T) (f : Nat → Int32) (g : Nat → Int64) : zz_y (xg_G q) 0 f g = .inr (0, [.ref (zz_ad (xg_G q) 1), .ref (zz_ad (xg_G q) 18), .ref (zz_ad (xg_G q) 25), .ref (zz_ad (xg_G q) 27), .ref (zz_ad (xg_G q) 41), .int (f 5)]) := rfl
theorem xc_1 (q : xg_T) (f : Nat → Int32) (g : Nat → Int64) : zz_y (xg_G q) 1 f g = .inr (1, [.ref (zz_ad (xg_G q) 2), .ref (zz_ad (xg_G q) 3), .ref (zz_ad (xg_G q) 4), .ref (zz_ad (xg_G q) 5), .ref (zz_ad (xg_G q) 6), .ref (zz_ad (xg_G q) 7), .ref (zz_ad (xg_G q) 8), .int (f 7)]) := rfl
theorem xc_2 (q : xg_T) (f : Nat → Int32) (g : Nat → Int64) : zz_y (xg_G q) 2 f g = .inl (q.2.2.1, 24, .inl f) := rfl
theorem xc_3 (q : xg_T) (f : Nat → Int32) (g : Nat → Int64) : zz_y (xg_G q) 3 f g = .inl (q.2.2.1, 24, .inl f) := rfl
theorem xc_4 (q : xg_T) (f : Nat → Int32) (g : Nat → Int64) : zz_y (xg_G q) 4 f g = .inl (q.2.2.1, 24, .inl f) := rfl
theorem xc_5 (q : xg_T) (f : Nat → Int32) (g : Nat → Int64) : zz_y (xg_G q) 5 f g = .inl (q.2.2.1, 24, .inl f) := rfl
theorem xc_6 (q : xg_T) (f : Nat → Int32) (g : Nat → Int64) : zz_y (xg_G q) 6 f g = .inl (q.2.2.1, 24, .inl f) := rfl
theorem xc_7 (q : xg_T) (f : Nat → Int32) (g : Nat → Int64) : zz_y (xg_G q) 7 f g = .inl (q.2.2.2.2.2.1, 9, .inr (.inr (.inr (.inr (fun i => some (zz_ad (xg_G q) (9 + i))))))) := rfl
theorem xc_8 (q : xg_T) (f : Nat → Int32) (g : Nat → Int64) : zz_y (xg_G q) 8 f g = .inl (q.2.2.1, 9, .inl f) := rfl
theorem xc_9 (q : xg_T) (f : Nat → Int32) (g : Nat → Int64) : zz_y (xg_G q) 9 f g = .inl (q.2.2.1, 24, .inl f) := rfl
theorem xc_10 (q : xg_T) (f : Nat → Int32) (g : Nat → Int64) : zz_y (xg_G q) 10 f g = .inl (q.2.2.1, 24, .inl f) := rfl
theorem xc_11 (q : xg_T) (f : Nat → Int32) (g : Nat → Int64) : zz_y (xg_G q) 11 f g = .inl (q.2.2.1, 24, .inl f) := rfl
theorem xc_12 (q : xg_T) (f : Nat → Int32) (g : Nat → Int64) : zz_y (xg_G q) 12 f g = .inl (q.2.2.1, 24, .inl f) := rfl
theorem xc_13 (q : xg_T) (f : Nat → Int32) (g : Nat → Int64) : zz_y (xg_G q) 13 f g = .inl (q.2.2.1, 24, .inl f) := rfl
theorem xc_14 (q : xg_T) (f : Nat → Int32) (g : Nat → Int64) : zz_y (xg_G q) 14 f g = .inl (q.2.2.1, 24, .inl f) := rfl
theorem xc_15 (q : xg_T) (f : Nat → Int32) (g : Nat → Int64) : zz_y (xg_G q) 15 f g = .inl (q.2.2.1, 24, .inl f) := rfl
theorem xc_16 (q : xg_T) (f : Nat → Int32) (g : Nat → Int64) : zz_y (xg_G q) 16 f g = .inl (q.2.2.1, 24, .inl f) := rfl
theorem xc_17 (q : xg_T) (f : Nat → Int32) (g : Nat → Int64) : zz_y (xg_G q) 17 f g = .inl (q.2.2.1, 24, .inl f) := rfl
theorem xc_18 (q : xg_T) (f : Nat → Int32) (g : Nat → Int64) : zz_y (xg_G q) 18 f g = .inr (4, [.ref (zz_ad (xg_G q) 19), .ref (zz_ad (xg_G q) 20), .ref (zz_ad (xg_G q) 21), .ref (zz_ad (xg_G q) 22), .ref (zz_ad (xg_G q) 23), .ref (zz_ad (xg_G q) 24), .ref (zz_ad (xg_G q) (42 + 3 * 40)), .int (f 7), .int (f 8), .int (f 9)]) := rfl
theorem xc_19 (q : xg_T) (f : Nat → Int32) (g : Nat → Int64) : zz_y (xg_G q) 19 f g = .inl (q.2.2.1, 40, .inl f) := rfl
theorem xc_20 (q : xg_T) (f : Nat → Int32) (g : Nat → Int64) : zz_y (xg_G q) 20 f g = .inl (q.2.2.1, 40, .inl f) := rfl
theorem xc_21 (q : xg_T) (f : Nat → Int32) (g : Nat → Int64) : zz_y (xg_G q) 21 f g = .inl (q.2.2.1, 40, .inl f) := rfl
theorem xc_22 (q : xg_T) (f : Nat → Int32) (g : Nat → Int64) : zz_y (xg_G q) 22 f g = .inl (q.2.2.1, 40, .inl f) := rfl
theorem xc_23 (q : xg_T) (f : Nat → Int32) (g : Nat → Int64) : zz_y (xg_G q) 23 f g = .inl (q.2.2.1, 40, .inl f) := rfl
theorem xc_24 (q : xg_T) (f : Nat → Int32) (g : Nat → Int64) : zz_y (xg_G q) 24 f g = .inl (q.2.2.2.2.1, 40, .inr (.inr (.inr (.inr (fun i => some (zz_ad (xg_G q) (42 + 3 * i))))))) := rfl
theorem xc_25 (q : xg_T) (f : Nat → Int32) (g : Nat → Int64) : zz_y (xg_G q) 25 f g = .inr (3, [.ref (zz_ad (xg_G q) 26), .ref (zz_ad (xg_G q) (42 + 3 * 41)), .int (f 2), .int (f 3)]) := rfl
theorem xc_26 (q : xg_T) (f : Nat → Int32) (g : Nat → Int64) : zz_y (xg_G q) 26 f g = .inl (q.2.2.2.2.1, 41, .inr (.inr (.inr (.inr (fun i => some (zz_ad (xg_G q) (42 + 3 * (42 + i)))))))) := rfl
theorem xc_27 (q : xg_T) (f : Nat → Int32) (g : Nat → Int64) : zz_y (xg_G q) 27 f g = .inr (5, [.ref (zz_ad (xg_G q) 28), .ref (zz_ad (xg_G q) 29), .ref (zz_ad (xg_G q) 30), .ref (zz_ad (xg_G q) 31), .ref (zz_ad (xg_G q) 32), .ref (zz_ad (xg_G q) 33), .ref (zz_ad (xg_G q) 34), .ref (zz_ad (xg_G q) 35), .ref (zz_ad (xg_G q) 36), .ref (zz_ad (xg_G q) 37), .ref (zz_ad (xg_G q) 38), .ref (zz_ad (xg_G q) 39), .ref (zz_ad (xg_G q) 40), .int (f 13), .int (f 14)]) := rfl
theorem xc_28 (q : xg_T) (f : Nat → Int32) (g : Nat → Int64) : zz_y (xg_G q) 28 f g = .inl (q.2.2.1, 160, .inl f) := rfl
theorem xc_29 (q : xg_T) (f : Nat → Int32) (g : Nat → Int64) : zz_y (xg_G q) 29 f g = .inl (q.2.2.1, 160, .inl f) := rfl
theorem xc_30 (q : xg_T) (f : Nat → Int32) (g : Nat → Int64) : zz_y (xg_G q) 30 f g = .inl (q.2.2.1, 160, .inl f) := rfl
theorem xc_31 (q : xg_T) (f : Nat → Int32) (g : Nat → Int64) : zz_y (xg_G q) 31 f g = .inl (q.2.2.1, 160, .inl f) := rfl
theorem xc_32 (q : xg_T) (f : Nat → Int32) (g : Nat → Int64) : zz_y (xg_G q) 32 f g = .inl (q.2.2.1, 160, .inl f) := rfl
theorem xc_33 (q : xg_T) (f : Nat → Int32) (g : Nat → Int64) : zz_y (xg_G q) 33 f g = .inl (q.2.2.1, 160, .inl f) := rfl
theorem xc_34 (q : xg_T) (f : Nat → Int32) (g : Nat → Int64) : zz_y (xg_G q) 34 f g = .inl (q.2.2.1, 160, .inl f) := rfl
theorem xc_35 (q : xg_T) (f : Nat → Int32) (g : Nat → Int64) : zz_y (xg_G q) 35 f g = .inl (q.2.2.1, 160, .inl f) := rfl
theorem xc_36 (q : xg_T) (f : Nat → Int32) (g : Nat → Int64) : zz_y (xg_G q) 36 f g = .inl (q.2.2.1, 164, .inl f) := rfl
theorem xc_37 (q : xg_T) (f : Nat → Int32) (g : Nat → Int64) : zz_y (xg_G q) 37 f g = .inl (q.2.2.1, 4, .inl f) := rfl
theorem xc_38 (q : xg_T) (f : Nat → Int32) (g : Nat → Int64) : zz_y (xg_G q) 38 f g = .inl (q.2.2.1, 40, .inl f) := rfl
theorem xc_39 (q : xg_T) (f : Nat → Int32) (g : Nat → Int64) : zz_y (xg_G q) 39 f g = .inl (q.2.2.1, 40, .inl f) := rfl
theorem xc_40 (q : xg_T) (f : Nat → Int32) (g : Nat → Int64) : zz_y (xg_G q) 40 f g = .inl (q.2.2.1, 4, .inl f) := rfl
theorem xc_41 (q : xg_T) (f : Nat → Int32) (g : Nat → Int64) : zz_y (xg_G q) 41 f g = .inl (q.2.2.1, 8, .inl f) := rfl
theorem xy_lab (q : xg_T) (j : Nat) (f : Nat → Int32) (g : Nat → Int64) : zz_y (xg_G q) (42 + 3 * j) f g = .inr (2, [.ref (zz_ad (xg_G q) (42 + 3 * j + 1)), .ref (zz_ad (xg_G q) (42 + 3 * j + 2))]) := by
  show xy_Y q (42 + 3 * j) f g = _
  rw [xy_Y, if_pos (by omega), if_pos (by omega)]
  rfl
theorem xy_cost (q : xg_T) (j : Nat) (f : Nat → Int32) (g : Nat → Int64) : zz_y (xg_G q) (42 + 3 * j + 1) f g = .inl (q.2.2.2.1, 4, .inr (.inl g)) := by
  show xy_Y q (42 + 3 * j + 1) f g = _
  rw [xy_Y, if_pos (by omega), if_neg (by omega), if_pos (by omega)]
theorem xy_choi (q : xg_T) (j : Nat) (f : Nat → Int32) (g : Nat → Int64) : zz_y (xg_G q) (42 + 3 * j + 2) f g = .inl (q.2.2.1, 4, .inl f) := by
  show xy_Y q (42 + 3 * j + 2) f g = _
  rw [xy_Y, if_pos (by omega), if_neg (by omega), if_neg (by omega)]
theorem xy_row (q : xg_T) (o : Nat) (ho : o < 9) (f : Nat → Int32) (g : Nat → Int64) : zz_y (xg_G q) (9 + o) f g = .inl (q.2.2.1, 24, .inl f) := by
  show xy_Y q (9 + o) f g = _
  rw [xy_Y, if_neg (by omega), if_pos (by omega)]
def my_Y (q : xg_T) : zz_Y := fun c f g =>
  match c with
  | 0 => .inr (6, [.int (f 0), .ref (q.2.1 1), .ref (q.2.1 2), .ref (q.2.1 3), .ref (q.2.1 4), .ref (q.2.1 5), .int (f 6), .ref (q.2.1 6), .ref (q.2.1 7), .ref (q.2.1 8), .ref (q.2.1 9), .int (f 11), .ref (q.2.1 10), .ref (q.2.1 11), .ref (q.2.1 12), .ref (q.2.1 13), .ref (q.2.1 14), .ref (q.2.1 15), .ref (q.2.1 16), .int (f 19), .ref (q.2.1 17), .ref (q.2.1 18), .int (f 22), .int (f 23), .int (f 24), .ref (q.2.1 19), .ref (q.2.1 20), .ref (q.2.1 21), .ref (q.2.1 22), .ref (q.2.1 23), .ref (q.2.1 24), .ref (q.2.1 25), .ref (q.2.1 26), .ref (q.2.1 27), .ref (q.2.1 28), .ref (q.2.1 29), .ref (q.2.1 30), .ref (q.2.1 31), .ref (q.2.1 32)])
  | 1 => .inl (q.2.2.1, 24, .inl f)
  | 2 => .inl (q.2.2.1, 24, .inl f)
  | 3 => .inl (q.2.2.1, 24, .inl f)
  | 4 => .inl (q.2.2.1, 24, .inl f)
  | 5 => .inl (q.2.2.1, 24, .inl f)
  | 6 => .inl (q.2.2.1, 40, .inl f)
  | 7 => .inl (q.2.2.1, 40, .inl f)
  | 8 => .inl (q.2.2.1, 40, .inl f)
  | 9 => .inl (q.2.2.1, 40, .inl f)
  | 10 => .inl (q.2.2.1, 40, .inl f)
  | 11 => .inl (q.2.2.2.1, 160, .inr (.inl g))
  | 12 => .inl (q.2.2.1, 160, .inl f)
  | 13 => .inl (q.2.2.2.1, 4, .inr (.inl g))
  | 14 => .inl (q.2.2.2.1, 4, .inr (.inl g))
  | 15 => .inl (q.2.2.2.1, 4, .inr (.inl g))
  | 16 => .inl (q.2.2.1, 4, .inl f)
  | 17 => .inl (q.2.2.2.1, 164, .inr (.inl g))
  | 18 => .inl (q.2.2.1, 164, .inl f)
  | 19 => .inl (q.2.2.1, 160, .inl f)
  | 20 => .inl (q.2.2.1, 160, .inl f)
  | 21 => .inl (q.2.2.1, 160, .inl f)
  | 22 => .inl (q.2.2.1, 160, .inl f)
  | 23 => .inl (q.2.2.1, 160, .inl f)
  | 24 => .inl (q.2.2.1, 160, .inl f)
  | 25 => .inl (q.2.2.1, 160, .inl f)
  | 26 => .inl (q.2.2.1, 160, .inl f)
  | 27 => .inl (q.2.2.1, 160, .inl f)
  | 28 => .inl (q.2.2.1, 40, .inl f)
  | 29 => .inl (q.2.2.1, 40, .inl f)
  | 30 => .inl (q.2.2.1, 8, .inl f)
  | 31 => .inl (q.2.2.1, 8, .inl f)
  | _ => .inl (q.2.2.1, 40, .inl f)
def mg_G (q : xg_T) : zz_G := (q.1, xg_cl, xg_ty q, 33, q.2.1, my_Y q, q.2.2.2.2.2.2)
theorem mc_0 (q : xg_T) (f : Nat → Int32) (g : Nat → Int64) : zz_y (mg_G q) 0 f g = .inr (6, [.int (f 0), .ref (zz_ad (mg_G q) 1), .ref (zz_ad (mg_G q) 2), .ref (zz_ad (mg_G q) 3), .ref (zz_ad (mg_G q) 4), .ref (zz_ad (mg_G q) 5), .int (f 6), .ref (zz_ad (mg_G q) 6), .ref (zz_ad (mg_G q) 7), .ref (zz_ad (mg_G q) 8), .ref (zz_ad (mg_G q) 9), .int (f 11), .ref (zz_ad (mg_G q) 10), .ref (zz_ad (mg_G q) 11), .ref (zz_ad (mg_G q) 12), .ref (zz_ad (mg_G q) 13), .ref (zz_ad (mg_G q) 14), .ref (zz_ad (mg_G q) 15), .ref (zz_ad (mg_G q) 16), .int (f 19), .ref (zz_ad (mg_G q) 17), .ref (zz_ad (mg_G q) 18), .int (f 22), .int (f 23), .int (f 24), .ref (zz_ad (mg_G q) 19), .ref (zz_ad (mg_G q) 20), .ref (zz_ad (mg_G q) 21), .ref (zz_ad (mg_G q) 22), .ref (zz_ad (mg_G q) 23), .ref (zz_ad (mg_G q) 24), .ref (zz_ad (mg_G q) 25), .ref (zz_ad (mg_G q) 26), .ref (zz_ad (mg_G q) 27), .ref (zz_ad (mg_G q) 28), .ref (zz_ad (mg_G q) 29), .ref (zz_ad (mg_G q) 30), .ref (zz_ad (mg_G q) 31), .ref (zz_ad (mg_G q) 32)]) := rfl
theorem mc_1 (q : xg_T) (f : Nat → Int32) (g : Nat → Int64) : zz_y (mg_G q) 1 f g = .inl (q.2.2.1, 24, .inl f) := rfl
theorem mc_2 (q : xg_T) (f : Nat → Int32) (g : Nat → Int64) : zz_y (mg_G q) 2 f g = .inl (q.2.2.1, 24, .inl f) := rfl
theorem mc_3 (q : xg_T) (f : Nat → Int32) (g : Nat → Int64) : zz_y (mg_G q) 3 f g = .inl (q.2.2.1, 24, .inl f) := rfl
theorem mc_4 (q : xg_T) (f : Nat → Int32) (g : Nat → Int64) : zz_y (mg_G q) 4 f g = .inl (q.2.2.1, 24, .inl f) := rfl
theorem mc_5 (q : xg_T) (f : Nat → Int32) (g : Nat → Int64) : zz_y (mg_G q) 5 f g = .inl (q.2.2.1, 24, .inl f) := rfl
theorem mc_6 (q : xg_T) (f : Nat → Int32) (g : Nat → Int64) : zz_y (mg_G q) 6 f g = .inl (q.2.2.1, 40, .inl f) := rfl
theorem mc_7 (q : xg_T) (f : Nat → Int32) (g : Nat → Int64) : zz_y (mg_G q) 7 f g = .inl (q.2.2.1, 40, .inl f) := rfl
theorem mc_8 (q : xg_T) (f : Nat → Int32) (g : Nat → Int64) : zz_y (mg_G q) 8 f g = .inl (q.2.2.1, 40, .inl f) := rfl
theorem mc_9 (q : xg_T) (f : Nat → Int32) (g : Nat → Int64) : zz_y (mg_G q) 9 f g = .inl (q.2.2.1, 40, .inl f) := rfl
theorem mc_10 (q : xg_T) (f : Nat → Int32) (g : Nat → Int64) : zz_y (mg_G q) 10 f g = .inl (q.2.2.1, 40, .inl f) := rfl
theorem mc_11 (q : xg_T) (f : Nat → Int32) (g : Nat → Int64) : zz_y (mg_G q) 11 f g = .inl (q.2.2.2.1, 160, .inr (.inl g)) := rfl
theorem mc_12 (q : xg_T) (f : Nat → Int32) (g : Nat → Int64) : zz_y (mg_G q) 12 f g = .inl (q.2.2.1, 160, .inl f) := rfl
theorem mc_13 (q : xg_T) (f : Nat → Int32) (g : Nat → Int64) : zz_y (mg_G q) 13 f g = .inl (q.2.2.2.1, 4, .inr (.inl g)) := rfl
theorem mc_14 (q : xg_T) (f : Nat → Int32) (g : Nat → Int64) : zz_y (mg_G q) 14 f g = .inl (q.2.2.2.1, 4, .inr (.inl g)) := rfl
theorem mc_15 (q : xg_T) (f : Nat → Int32) (g : Nat → Int64) : zz_y (mg_G q) 15 f g = .inl (q.2.2.2.1, 4, .inr (.inl g)) := rfl
theorem mc_16 (q : xg_T) (f : Nat → Int32) (g : Nat → Int64) : zz_y (mg_G q) 16 f g = .inl (q.2.2.1, 4, .inl f) := rfl
theorem mc_17 (q : xg_T) (f : Nat → Int32) (g : Nat → Int64) : zz_y (mg_G q) 17 f g = .inl (q.2.2.2.1, 164, .inr (.inl g)) := rfl
theorem mc_18 (q : xg_T) (f : Nat → Int32) (g : Nat → Int64) : zz_y (mg_G q) 18 f g = .inl (q.2.2.1, 164, .inl f) := rfl
theorem mc_19 (q : xg_T) (f : Nat → Int32) (g : Nat → Int64) : zz_y (mg_G q) 19 f g = .inl (q.2.2.1, 160, .inl f) := rfl
theorem mc_20 (q : xg_T) (f : Nat → Int32) (g : Nat → Int64) : zz_y (mg_G q) 20 f g = .inl (q.2.2.1, 160, .inl f) := rfl
theorem mc_21 (q : xg_T) (f : Nat → Int32) (g : Nat → Int64) : zz_y (mg_G q) 21 f g = .inl (q.2.2.1, 160, .inl f) := rfl
theorem mc_22 (q : xg_T) (f : Nat → Int32) (g : Nat → Int64) : zz_y (mg_G q) 22 f g = .inl (q.2.2.1, 160, .inl f) := rfl
theorem mc_23 (q : xg_T) (f : Nat → Int32) (g : Nat → Int64) : zz_y (mg_G q) 23 f g = .inl (q.2.2.1, 160, .inl f) := rfl
theorem mc_24 (q : xg_T) (f : Nat → Int32) (g : Nat → Int64) : zz_y (mg_G q) 24 f g = .inl (q.2.2.1, 160, .inl f) := rfl
theorem mc_25 (q : xg_T) (f : Nat → Int32) (g : Nat → Int64) : zz_y (mg_G q) 25 f g = .inl (q.2.2.1, 160, .inl f) := rfl
theorem mc_26 (q : xg_T) (f : Nat → Int32) (g : Nat → Int64) : zz_y (mg_G q) 26 f g = .inl (q.2.2.1, 160, .inl f) := rfl
theorem mc_27 (q : xg_T) (f : Nat → Int32) (g : Nat → Int64) : zz_y (mg_G q) 27 f g = .inl (q.2.2.1, 160, .inl f) := rfl
theorem mc_28 (q : xg_T) (f : Nat → Int32) (g : Nat → Int64) : zz_y (mg_G q) 28 f g = .inl (q.2.2.1, 40, .inl f) := rfl
theorem mc_29 (q : xg_T) (f : Nat → Int32) (g : Nat → Int64) : zz_y (mg_G q) 29 f g = .inl (q.2.2.1, 40, .inl f) := rfl
theorem mc_30 (q : xg_T) (f : Nat → Int32) (g : Nat → Int64) : zz_y (mg_G q) 30 f g = .inl (q.2.2.1, 8, .inl f) := rfl
theorem mc_31 (q : xg_T) (f : Nat → Int32) (g : Nat → Int64) : zz_y (mg_G q) 31 f g = .inl (q.2.2.1, 8, .inl f) := rfl
theorem mc_32 (q : xg_T) (f : Nat → Int32) (g : Nat → Int64) : zz_y (mg_G q) 32 f g = .inl (q.2.2.1, 40, .inl f) := rfl
