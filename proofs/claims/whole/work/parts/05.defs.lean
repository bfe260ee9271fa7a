def nm {α β : Type} (e : α) (k : α → β) : β := k e
def bd {α γ : Type} (m : Option α) (k : α → Option γ) : Option γ := match m with
  | none => none
  | some a => k a
def bd2 {α0 α1 γ : Type} (m : Option (α0 × α1)) (k : α0 → α1 → Option γ) : Option γ := match m with
  | none => none
  | some x => k x.1 x.2
def bd3 {α0 α1 α2 γ : Type} (m : Option (α0 × α1 × α2)) (k : α0 → α1 → α2 → Option γ) : Option γ := match m with
  | none => none
  | some x => k x.1 x.2.1 x.2.2
def bd4 {α0 α1 α2 α3 γ : Type} (m : Option (α0 × α1 × α2 × α3)) (k : α0 → α1 → α2 → α3 → Option γ) : Option γ := match m with
  | none => none
  | some x => k x.1 x.2.1 x.2.2.1 x.2.2.2
def bd5 {α0 α1 α2 α3 α4 γ : Type} (m : Option (α0 × α1 × α2 × α3 × α4)) (k : α0 → α1 → α2 → α3 → α4 → Option γ) : Option γ := match m with
  | none => none
  | some x => k x.1 x.2.1 x.2.2.1 x.2.2.2.1 x.2.2.2.2
def bd6 {α0 α1 α2 α3 α4 α5 γ : Type} (m : Option (α0 × α1 × α2 × α3 × α4 × α5)) (k : α0 → α1 → α2 → α3 → α4 → α5 → Option γ) : Option γ := match m with
  | none => none
  | some x => k x.1 x.2.1 x.2.2.1 x.2.2.2.1 x.2.2.2.2.1 x.2.2.2.2.2
def bd7 {α0 α1 α2 α3 α4 α5 α6 γ : Type} (m : Option (α0 × α1 × α2 × α3 × α4 × α5 × α6)) (k : α0 → α1 → α2 → α3 → α4 → α5 → α6 → Option γ) : Option γ := match m with
  | none => none
  | some x => k x.1 x.2.1 x.2.2.1 x.2.2.2.1 x.2.2.2.2.1 x.2.2.2.2.2.1 x.2.2.2.2.2.2
def bd8 {α0 α1 α2 α3 α4 α5 α6 α7 γ : Type} (m : Option (α0 × α1 × α2 × α3 × α4 × α5 × α6 × α7)) (k : α0 → α1 → α2 → α3 → α4 → α5 → α6 → α7 → Option γ) : Option γ := match m with
  | none => none
  | some x => k x.1 x.2.1 x.2.2.1 x.2.2.2.1 x.2.2.2.2.1 x.2.2.2.2.2.1 x.2.2.2.2.2.2.1 x.2.2.2.2.2.2.2
def bd9 {α0 α1 α2 α3 α4 α5 α6 α7 α8 γ : Type} (m : Option (α0 × α1 × α2 × α3 × α4 × α5 × α6 × α7 × α8)) (k : α0 → α1 → α2 → α3 → α4 → α5 → α6 → α7 → α8 → Option γ) : Option γ := match m with
  | none => none
  | some x => k x.1 x.2.1 x.2.2.1 x.2.2.2.1 x.2.2.2.2.1 x.2.2.2.2.2.1 x.2.2.2.2.2.2.1 x.2.2.2.2.2.2.2.1 x.2.2.2.2.2.2.2.2
def bd10 {α0 α1 α2 α3 α4 α5 α6 α7 α8 α9 γ : Type} (m : Option (α0 × α1 × α2 × α3 × α4 × α5 × α6 × α7 × α8 × α9)) (k : α0 → α1 → α2 → α3 → α4 → α5 → α6 → α7 → α8 → α9 → Option γ) : Option γ := match m with
  | none => none
  | some x => k x.1 x.2.1 x.2.2.1 x.2.2.2.1 x.2.2.2.2.1 x.2.2.2.2.2.1 x.2.2.2.2.2.2.1 x.2.2.2.2.2.2.2.1 x.2.2.2.2.2.2.2.2.1 x.2.2.2.2.2.2.2.2.2
def bd11 {α0 α1 α2 α3 α4 α5 α6 α7 α8 α9 α10 γ : Type} (m : Option (α0 × α1 × α2 × α3 × α4 × α5 × α6 × α7 × α8 × α9 × α10)) (k : α0 → α1 → α2 → α3 → α4 → α5 → α6 → α7 → α8 → α9 → α10 → Option γ) : Option γ := match m with
  | none => none
  | some x => k x.1 x.2.1 x.2.2.1 x.2.2.2.1 x.2.2.2.2.1 x.2.2.2.2.2.1 x.2.2.2.2.2.2.1 x.2.2.2.2.2.2.2.1 x.2.2.2.2.2.2.2.2.1 x.2.2.2.2.2.2.2.2.2.1 x.2.2.2.2.2.2.2.2.2.2
def bd12 {α0 α1 α2 α3 α4 α5 α6 α7 α8 α9 α10 α11 γ : Type} (m : Option (α0 × α1 × α2 × α3 × α4 × α5 × α6 × α7 × α8 × α9 × α10 × α11)) (k : α0 → α1 → α2 → α3 → α4 → α5 → α6 → α7 → α8 → α9 → α10 → α11 → Option γ) : Option γ := match m with
  | none => none
  | some x => k x.1 x.2.1 x.2.2.1 x.2.2.2.1 x.2.2.2.2.1 x.2.2.2.2.2.1 x.2.2.2.2.2.2.1 x.2.2.2.2.2.2.2.1 x.2.2.2.2.2.2.2.2.1 x.2.2.2.2.2.2.2.2.2.1 x.2.2.2.2.2.2.2.2.2.2.1 x.2.2.2.2.2.2.2.2.2.2.2
def bd13 {α0 α1 α2 α3 α4 α5 α6 α7 α8 α9 α10 α11 α12 γ : Type} (m : Option (α0 × α1 × α2 × α3 × α4 × α5 × α6 × α7 × α8 × α9 × α10 × α11 × α12)) (k : α0 → α1 → α2 → α3 → α4 → α5 → α6 → α7 → α8 → α9 → α10 → α11 → α12 → Option γ) : Option γ := match m with
  | none => none
  | some x => k x.1 x.2.1 x.2.2.1 x.2.2.2.1 x.2.2.2.2.1 x.2.2.2.2.2.1 x.2.2.2.2.2.2.1 x.2.2.2.2.2.2.2.1 x.2.2.2.2.2.2.2.2.1 x.2.2.2.2.2.2.2.2.2.1 x.2.2.2.2.2.2.2.2.2.2.1 x.2.2.2.2.2.2.2.2.2.2.2.1 x.2.2.2.2.2.2.2.2.2.2.2.2
def bd14 {α0 α1 α2 α3 α4 α5 α6 α7 α8 α9 α10 α11 α12 α13 γ : Type} (m : Option (α0 × α1 × α2 × α3 × α4 × α5 × α6 × α7 × α8 × α9 × α10 × α11 × α12 × α13)) (k : α0 → α1 → α2 → α3 → α4 → α5 → α6 → α7 → α8 → α9 → α10 → α11 → α12 → α13 → Option γ) : Option γ := match m with
  | none => none
  | some x => k x.1 x.2.1 x.2.2.1 x.2.2.2.1 x.2.2.2.2.1 x.2.2.2.2.2.1 x.2.2.2.2.2.2.1 x.2.2.2.2.2.2.2.1 x.2.2.2.2.2.2.2.2.1 x.2.2.2.2.2.2.2.2.2.1 x.2.2.2.2.2.2.2.2.2.2.1 x.2.2.2.2.2.2.2.2.2.2.2.1 x.2.2.2.2.2.2.2.2.2.2.2.2.1 x.2.2.2.2.2.2.2.2.2.2.2.2.2
def bd15 {α0 α1 α2 α3 α4 α5 α6 α7 α8 α9 α10 α11 α12 α13 α14 γ : Type} (m : Option (α0 × α1 × α2 × α3 × α4 × α5 × α6 × α7 × α8 × α9 × α10 × α11 × α12 × α13 × α14)) (k : α0 → α1 → α2 → α3 → α4 → α5 → α6 → α7 → α8 → α9 → α10 → α11 → α12 → α13 → α14 → Option γ) : Option γ := match m with
  | none => none
  | some x => k x.1 x.2.1 x.2.2.1 x.2.2.2.1 x.2.2.2.2.1 x.2.2.2.2.2.1 x.2.2.2.2.2.2.1 x.2.2.2.2.2.2.2.1 x.2.2.2.2.2.2.2.2.1 x.2.2.2.2.2.2.2.2.2.1 x.2.2.2.2.2.2.2.2.2.2.1 x.2.2.2.2.2.2.2.2.2.2.2.1 x.2.2.2.2.2.2.2.2.2.2.2.2.1 x.2.2.2.2.2.2.2.2.2.2.2.2.2.1 x.2.2.2.2.2.2.2.2.2.2.2.2.2.2
def ix {γ : Type} (i : Int32) (n : Nat) (k : Option γ) : Option γ := if i < 0 ∨ n ≤ i.toNatClampNeg then none else k
def FU : Nat := 4000
def f_J6_bitCount_0f7a4 (x0 : Int32) : Option (Int32) :=
  nm (x0 - (((x0.toUInt32 >>> ((1 : Int32).toUInt32 &&& Int32.toUInt32 31)).toInt32) &&& (1431655765 : Int32))) (fun v_1 =>
  nm ((v_1 &&& (858993459 : Int32)) + (((v_1.toUInt32 >>> ((2 : Int32).toUInt32 &&& Int32.toUInt32 31)).toInt32) &&& (858993459 : Int32))) (fun v_2 =>
  nm ((v_2 + ((v_2.toUInt32 >>> ((4 : Int32).toUInt32 &&& Int32.toUInt32 31)).toInt32)) &&& (252645135 : Int32)) (fun v_3 =>
  nm (v_3 + ((v_3.toUInt32 >>> ((8 : Int32).toUInt32 &&& Int32.toUInt32 31)).toInt32)) (fun v_4 =>
  nm (v_4 + ((v_4.toUInt32 >>> ((16 : Int32).toUInt32 &&& Int32.toUInt32 31)).toInt32)) (fun v_5 =>
  nm (v_5 &&& (63 : Int32)) (fun v_6 =>
  some v_6))))))
def f_X5_isBetween (x0 : Int32) (x1 : Int32) (x2 : Int32) : Option (Int32) :=
  if x0 < x1 then
  (some (0 : Int32))
  else
  (if x2 < x0 then
  (some (0 : Int32))
  else
  (some (1 : Int32)))
def f_X5_isPerson (x0 : Int32) : Option (Int32) :=
  bd (f_X5_isBetween x0 (0 : Int32) (9 : Int32)) (fun r_1 =>
  some r_1)
def f_X3_rows (rows : Int32) : Option (Int32) :=
  some rows
def f_X3_has (x1 : Int32) (rows : Int32) : Option (Int32) :=
  if x1 < (0 : Int32) then
  (some (0 : Int32))
  else
  (if rows ≤ x1 then
  (some (0 : Int32))
  else
  (some (1 : Int32)))
def f_X3_isFull (lim : Int32) (rows : Int32) : Option (Int32) :=
  if rows < lim then
  (some (0 : Int32))
  else
  (some (1 : Int32))
def f_X3_at (col : Int32) (nn : Nat) (x1 : Int32) (x2 : Int32) (rows : Int32) (f : (Nat → Int32)) : Option (Int32) :=
  if x1 < (0 : Int32) then
  (nm ((x1 * col) + x2) (fun v_2 =>
  some (0 : Int32)))
  else
  (if rows ≤ x1 then
  (nm ((x1 * col) + x2) (fun v_5 =>
  some (0 : Int32)))
  else
  (if x2 < (0 : Int32) then
  (nm ((x1 * col) + x2) (fun v_8 =>
  some (0 : Int32)))
  else
  (if col ≤ x2 then
  (nm ((x1 * col) + x2) (fun v_11 =>
  some (0 : Int32)))
  else
  (nm ((x1 * col) + x2) (fun v_13 =>
  if v_13 < (0 : Int32) then
  (some (0 : Int32))
  else
  (if Int32.ofNat nn ≤ v_13 then
  (some (0 : Int32))
  else
  (ix v_13 nn (
  nm (f v_13.toNatClampNeg) (fun v_18 =>
  some v_18)))))))))
def f_X3_put (col : Int32) (nn : Nat) (x1 : Int32) (x2 : Int32) (x3 : Int32) (rows : Int32) (f : (Nat → Int32)) : Option ((Nat → Int32)) :=
  if x1 < (0 : Int32) then
  (nm ((x1 * col) + x2) (fun v_2 =>
  some f))
  else
  (if rows ≤ x1 then
  (nm ((x1 * col) + x2) (fun v_5 =>
  some f))
  else
  (if x2 < (0 : Int32) then
  (nm ((x1 * col) + x2) (fun v_8 =>
  some f))
  else
  (if col ≤ x2 then
  (nm ((x1 * col) + x2) (fun v_11 =>
  some f))
  else
  (nm ((x1 * col) + x2) (fun v_13 =>
  if v_13 < (0 : Int32) then
  (some f)
  else
  (if Int32.ofNat nn ≤ v_13 then
  (some f)
  else
  (ix v_13 nn (
  nm (upd f v_13.toNatClampNeg x3) (fun f_18 =>
  some f_18)))))))))
def f_X3_addRow (lim : Int32) (rows : Int32) : Option (Int32 × Int32) :=
  if rows < lim then
  (nm (rows + (1 : Int32)) (fun v_2 =>
  nm (v_2 - (1 : Int32)) (fun v_3 =>
  some (v_3, v_2))))
  else
  (some ((-1 : Int32), rows))
def f_X3_drop_L30 (x2 : Int32) (col : Int32) (nn : Nat) : Nat → Int32 → (Nat → Int32) →  Option ((Nat → Int32))
  | 0, _, _ => none
  | k_ + 1, x3, f =>
    if x2 - col ≤ x3 then
    (some f)
    else
    (nm (x3 + col) (fun v_2 =>
    if x3 < (0 : Int32) then
    (nm (x3 + (1 : Int32)) (fun v_4 =>
    f_X3_drop_L30 x2 col nn k_ v_4 f))
    else
    (if Int32.ofNat nn ≤ x3 then
    (nm (x3 + (1 : Int32)) (fun v_6 =>
    f_X3_drop_L30 x2 col nn k_ v_6 f))
    else
    (if v_2 < (0 : Int32) then
    (nm (x3 + (1 : Int32)) (fun v_8 =>
    f_X3_drop_L30 x2 col nn k_ v_8 f))
    else
    (if Int32.ofNat nn ≤ v_2 then
    (nm (x3 + (1 : Int32)) (fun v_10 =>
    f_X3_drop_L30 x2 col nn k_ v_10 f))
    else
    (ix v_2 nn (
    nm (f v_2.toNatClampNeg) (fun v_12 =>
    ix x3 nn (
    nm (upd f x3.toNatClampNeg v_12) (fun f_14 =>
    nm (x3 + (1 : Int32)) (fun v_15 =>
    f_X3_drop_L30 x2 col nn k_ v_15 f_14)))))))))))
def f_X3_drop (col : Int32) (nn : Nat) (x1 : Int32) (rows : Int32) (f : (Nat → Int32)) : Option (Int32 × (Nat → Int32)) :=
  if x1 < (0 : Int32) then
  (some (rows, f))
  else
  (if x1 < rows then
  (nm (rows * col) (fun v_18 =>
  nm (x1 * col) (fun v_19 =>
  bd (f_X3_drop_L30 v_18 col nn FU v_19 f) (fun f_20 =>
  nm (rows - (1 : Int32)) (fun v_22 =>
  some (v_22, f_20))))))
  else
  (some (rows, f)))
def f_X3_dropAll (rows : Int32) : Option (Int32) :=
  some (0 : Int32)
def f_X3_takeOver_L38 (x2 : Int32) (nn : Nat) (nn2 : Nat) (f2 : (Nat → Int32)) : Nat → Int32 → (Nat → Int32) →  Option ((Nat → Int32))
  | 0, _, _ => none
  | k_ + 1, x3, f =>
    if x2 ≤ x3 then
    (some f)
    else
    (if Int32.ofNat nn ≤ x3 then
    (some f)
    else
    (if Int32.ofNat nn2 ≤ x3 then
    (some f)
    else
    (ix x3 nn2 (
    nm (f2 x3.toNatClampNeg) (fun v_5 =>
    ix x3 nn (
    nm (upd f x3.toNatClampNeg v_5) (fun f_7 =>
    nm (x3 + (1 : Int32)) (fun v_8 =>
    f_X3_takeOver_L38 x2 nn nn2 f2 k_ v_8 f_7))))))))
def f_X3_takeOver (lim : Int32) (col : Int32) (nn : Nat) (nn2 : Nat) (rows : Int32) (f : (Nat → Int32)) (rows2 : Int32) (f2 : (Nat → Int32)) : Option (Int32 × (Nat → Int32)) :=
  if lim ≤ rows2 then
  (nm (lim * col) (fun v_10 =>
  bd (f_X3_takeOver_L38 v_10 nn nn2 f2 FU (0 : Int32) f) (fun f_11 =>
  some (lim, f_11))))
  else
  (nm (rows2 * col) (fun v_13 =>
  bd (f_X3_takeOver_L38 v_13 nn nn2 f2 FU (0 : Int32) f) (fun f_14 =>
  some (rows2, f_14))))
def f_X2_rightsOf (x1 : Int32) (x2 : Int32) (rH : Int32) (fH : (Nat → Int32)) : Option (Int32) :=
  bd (f_X3_at (10 : Int32) 80 x2 x1 rH fH) (fun r_1 =>
  some r_1)
def f_X2_placeOf_L2 (x1 : Int32) (rG : Int32) (fG : (Nat → Int32)) : Nat → Int32 →  Option (Int32)
  | 0, _ => none
  | k_ + 1, x2 =>
    bd (f_X3_rows rG) (fun r_1 =>
    if r_1 ≤ x2 then
    (some (-1 : Int32))
    else
    (bd (f_X3_at (6 : Int32) 240 x2 (5 : Int32) rG fG) (fun r_4 =>
    if r_4 = x1 then
    (some x2)
    else
    (nm (x2 + (1 : Int32)) (fun v_7 =>
    f_X2_placeOf_L2 x1 rG fG k_ v_7)))))
def f_X2_placeOf (x1 : Int32) (rG : Int32) (fG : (Nat → Int32)) : Option (Int32) :=
  f_X2_placeOf_L2 x1 rG fG FU (0 : Int32)
def f_X2_passedOn (x1 : Int32) (rT : Int32) (fT : (Nat → Int32)) (rG : Int32) (fG : (Nat → Int32)) (rH : Int32) (fH : (Nat → Int32)) : Option (Int32) :=
  bd (f_X3_at (6 : Int32) 240 x1 (2 : Int32) rG fG) (fun r_1 =>
  bd (f_X3_at (6 : Int32) 240 x1 (0 : Int32) rG fG) (fun r_3 =>
  bd (f_X3_at (10 : Int32) 80 r_1 r_3 rH fH) (fun r_5 =>
  if r_5 &&& (4 : Int32) = (0 : Int32) then
  (some (0 : Int32))
  else
  (bd (f_X3_at (6 : Int32) 240 x1 (3 : Int32) rG fG) (fun r_8 =>
  bd (f_X3_at (2 : Int32) 16 r_1 (1 : Int32) rT fT) (fun r_10 =>
  nm ((r_8 &&& r_5) &&& r_10) (fun v_12 =>
  some v_12)))))))
def f_X2_countEqual_L5 (x1 : Int32) (x2 : Int32) (col : Int32) (nn : Nat) (rows : Int32) (f : (Nat → Int32)) : Nat → Int32 → Int32 →  Option (Int32)
  | 0, _, _ => none
  | k_ + 1, x3, x4 =>
    bd (f_X3_rows rows) (fun r_1 =>
    if r_1 ≤ x4 then
    (some x3)
    else
    (bd (f_X3_at col nn x4 x1 rows f) (fun r_4 =>
    if r_4 = x2 then
    (nm (x3 + (1 : Int32)) (fun v_8 =>
    nm (x4 + (1 : Int32)) (fun v_9 =>
    f_X2_countEqual_L5 x1 x2 col nn rows f k_ v_8 v_9)))
    else
    (nm (x4 + (1 : Int32)) (fun v_7 =>
    f_X2_countEqual_L5 x1 x2 col nn rows f k_ x3 v_7)))))
def f_X2_countEqual (col : Int32) (nn : Nat) (x1 : Int32) (x2 : Int32) (rows : Int32) (f : (Nat → Int32)) : Option (Int32) :=
  bd (f_X2_countEqual_L5 x1 x2 col nn rows f FU (0 : Int32) (0 : Int32)) (fun y3_10 =>
  some y3_10)
def f_X2_thingsSeenBy_L4 (x1 : Int32) (rT : Int32) (rH : Int32) (fH : (Nat → Int32)) : Nat → Int32 → Int32 →  Option (Int32)
  | 0, _, _ => none
  | k_ + 1, x2, x3 =>
    bd (f_X3_rows rT) (fun r_1 =>
    if r_1 ≤ x3 then
    (some x2)
    else
    (bd (f_X3_at (10 : Int32) 80 x3 x1 rH fH) (fun r_4 =>
    if r_4 &&& (1 : Int32) = (0 : Int32) then
    (nm (x3 + (1 : Int32)) (fun v_7 =>
    f_X2_thingsSeenBy_L4 x1 rT rH fH k_ x2 v_7))
    else
    (nm (x2 ||| ((1 : Int32) <<< (x3 &&& 31))) (fun v_8 =>
    nm (x3 + (1 : Int32)) (fun v_9 =>
    f_X2_thingsSeenBy_L4 x1 rT rH fH k_ v_8 v_9))))))
def f_X2_thingsSeenBy (x1 : Int32) (rT : Int32) (rH : Int32) (fH : (Nat → Int32)) : Option (Int32) :=
  bd (f_X2_thingsSeenBy_L4 x1 rT rH fH FU (0 : Int32) (0 : Int32)) (fun y2_10 =>
  some y2_10)
def f_X2_holdersOf_L5 (x1 : Int32) (x2 : Int32) (rH : Int32) (fH : (Nat → Int32)) : Nat → Int32 → Int32 →  Option (Int32)
  | 0, _, _ => none
  | k_ + 1, x3, x4 =>
    if (10 : Int32) ≤ x4 then
    (some x3)
    else
    (bd (f_X3_at (10 : Int32) 80 x1 x4 rH fH) (fun r_2 =>
    if r_2 &&& x2 = (0 : Int32) then
    (nm (x4 + (1 : Int32)) (fun v_5 =>
    f_X2_holdersOf_L5 x1 x2 rH fH k_ x3 v_5))
    else
    (nm (x3 ||| ((1 : Int32) <<< (x4 &&& 31))) (fun v_6 =>
    nm (x4 + (1 : Int32)) (fun v_7 =>
    f_X2_holdersOf_L5 x1 x2 rH fH k_ v_6 v_7)))))
def f_X2_holdersOf (x1 : Int32) (x2 : Int32) (rH : Int32) (fH : (Nat → Int32)) : Option (Int32) :=
  bd (f_X2_holdersOf_L5 x1 x2 rH fH FU (0 : Int32) (0 : Int32)) (fun y3_8 =>
  some y3_8)
def f_X2_countIdleGrants_L4 (rT : Int32) (fT : (Nat → Int32)) (rG : Int32) (fG : (Nat → Int32)) (rH : Int32) (fH : (Nat → Int32)) : Nat → Int32 → Int32 →  Option (Int32)
  | 0, _, _ => none
  | k_ + 1, x1, x2 =>
    bd (f_X3_rows rG) (fun r_1 =>
    if r_1 ≤ x2 then
    (some x1)
    else
    (bd (f_X2_passedOn x2 rT fT rG fG rH fH) (fun r_4 =>
    if r_4 = (0 : Int32) then
    (nm (x1 + (1 : Int32)) (fun v_8 =>
    nm (x2 + (1 : Int32)) (fun v_9 =>
    f_X2_countIdleGrants_L4 rT fT rG fG rH fH k_ v_8 v_9)))
    else
    (nm (x2 + (1 : Int32)) (fun v_7 =>
    f_X2_countIdleGrants_L4 rT fT rG fG rH fH k_ x1 v_7)))))
def f_X2_countIdleGrants (rT : Int32) (fT : (Nat → Int32)) (rG : Int32) (fG : (Nat → Int32)) (rH : Int32) (fH : (Nat → Int32)) : Option (Int32) :=
  bd (f_X2_countIdleGrants_L4 rT fT rG fG rH fH FU (0 : Int32) (0 : Int32)) (fun y1_10 =>
  some y1_10)
def f_X2_countPairs_L4 (rT : Int32) (rH : Int32) (fH : (Nat → Int32)) : Nat → Int32 → Int32 →  Option (Int32)
  | 0, _, _ => none
  | k_ + 1, x1, x2 =>
    bd (f_X3_rows rT) (fun r_1 =>
    if r_1 ≤ x2 then
    (some x1)
    else
    (bd (f_X2_holdersOf x2 (1 : Int32) rH fH) (fun r_4 =>
    bd (f_J6_bitCount_0f7a4 r_4) (fun r_6 =>
    nm (x1 + r_6) (fun v_8 =>
    nm (x2 + (1 : Int32)) (fun v_9 =>
    f_X2_countPairs_L4 rT rH fH k_ v_8 v_9))))))
def f_X2_countPairs (rT : Int32) (rH : Int32) (fH : (Nat → Int32)) : Option (Int32) :=
  bd (f_X2_countPairs_L4 rT rH fH FU (0 : Int32) (0 : Int32)) (fun y1_10 =>
  some y1_10)
def f_X2_greatestThreshold_L4 (x1 : Int32) (rG : Int32) (fG : (Nat → Int32)) : Nat → Int32 → Int32 →  Option (Int32)
  | 0, _, _ => none
  | k_ + 1, x2, x3 =>
    bd (f_X3_rows rG) (fun r_1 =>
    if r_1 ≤ x3 then
    (some x2)
    else
    (bd (f_X3_at (6 : Int32) 240 x3 (0 : Int32) rG fG) (fun r_4 =>
    if r_4 = x1 then
    (bd (f_X3_at (6 : Int32) 240 x3 (4 : Int32) rG fG) (fun r_8 =>
    nm (if x2 < r_8 then r_8 else x2) (fun v_10 =>
    nm (x3 + (1 : Int32)) (fun v_11 =>
    f_X2_greatestThreshold_L4 x1 rG fG k_ v_10 v_11))))
    else
    (nm (x3 + (1 : Int32)) (fun v_7 =>
    f_X2_greatestThreshold_L4 x1 rG fG k_ x2 v_7)))))
def f_X2_greatestThreshold (x1 : Int32) (rG : Int32) (fG : (Nat → Int32)) : Option (Int32) :=
  bd (f_X2_greatestThreshold_L4 x1 rG fG FU (0 : Int32) (0 : Int32)) (fun y2_12 =>
  some y2_12)
def f_X2_isGrantOf (x1 : Int32) (x2 : Int32) (x3 : Int32) (x4 : Int32) (rG : Int32) (fG : (Nat → Int32)) : Option (Int32) :=
  bd (f_X3_at (6 : Int32) 240 x1 (1 : Int32) rG fG) (fun r_1 =>
  if r_1 = x2 then
  (bd (f_X3_at (6 : Int32) 240 x1 (2 : Int32) rG fG) (fun r_4 =>
  if r_4 = x3 then
  (bd (f_X3_at (6 : Int32) 240 x1 (3 : Int32) rG fG) (fun r_7 =>
  if r_7 &&& x4 = (0 : Int32) then
  (some (0 : Int32))
  else
  (some (1 : Int32))))
  else
  (some (0 : Int32))))
  else
  (some (0 : Int32)))
def f_X2_settle_L80 (rT : Int32) (fT : (Nat → Int32)) (rG : Int32) (fG : (Nat → Int32)) (rH : Int32) : Nat → Int32 → Int32 → (Nat → Int32) →  Option (Int32 × (Nat → Int32))
  | 0, _, _, _ => none
  | k_ + 1, x1, x3, fH =>
    bd (f_X3_rows rG) (fun r_1 =>
    if r_1 ≤ x3 then
    (some (x1, fH))
    else
    (bd (f_X3_at (6 : Int32) 240 x3 (2 : Int32) rG fG) (fun r_4 =>
    bd (f_X3_at (6 : Int32) 240 x3 (1 : Int32) rG fG) (fun r_6 =>
    bd (f_X3_at (10 : Int32) 80 r_4 r_6 rH fH) (fun r_8 =>
    bd (f_X2_passedOn x3 rT fT rG fG rH fH) (fun r_10 =>
    nm (r_8 ||| r_10) (fun v_12 =>
    bd (f_X3_put (10 : Int32) 80 r_4 r_6 v_12 rH fH) (fun fH_13 =>
    if x1 = (0 : Int32) then
    (if v_12 = r_8 then
    (nm (x3 + (1 : Int32)) (fun v_18 =>
    f_X2_settle_L80 rT fT rG fG rH k_ (0 : Int32) v_18 fH_13))
    else
    (nm (x3 + (1 : Int32)) (fun v_19 =>
    f_X2_settle_L80 rT fT rG fG rH k_ (1 : Int32) v_19 fH_13)))
    else
    (nm (x3 + (1 : Int32)) (fun v_16 =>
    f_X2_settle_L80 rT fT rG fG rH k_ (1 : Int32) v_16 fH_13))))))))))
def f_X2_settle_L65 (rT : Int32) (fT : (Nat → Int32)) (rG : Int32) (fG : (Nat → Int32)) (rH : Int32) : Nat → Int32 → Int32 → (Nat → Int32) →  Option ((Nat → Int32))
  | 0, _, _, _ => none
  | k_ + 1, x1, x2, fH =>
    if (241 : Int32) ≤ x2 then
    (some fH)
    else
    (if x1 = (0 : Int32) then
    (some fH)
    else
    (bd2 (f_X2_settle_L80 rT fT rG fG rH FU (0 : Int32) (0 : Int32) fH) (fun y1_22 fH_23 =>
    nm (x2 + (1 : Int32)) (fun v_25 =>
    f_X2_settle_L65 rT fT rG fG rH k_ y1_22 v_25 fH_23))))
def f_X2_settle_L15 (x1 : Int32) (rT : Int32) (fT : (Nat → Int32)) (rH : Int32) : Nat → Int32 → (Nat → Int32) →  Option ((Nat → Int32))
  | 0, _, _ => none
  | k_ + 1, x2, fH =>
    if (10 : Int32) ≤ x2 then
    (some fH)
    else
    (bd (f_X3_at (2 : Int32) 16 x1 (0 : Int32) rT fT) (fun r_27 =>
    if x2 = r_27 then
    (bd (f_X3_put (10 : Int32) 80 x1 x2 (7 : Int32) rH fH) (fun fH_33 =>
    nm (x2 + (1 : Int32)) (fun v_35 =>
    f_X2_settle_L15 x1 rT fT rH k_ v_35 fH_33)))
    else
    (bd (f_X3_put (10 : Int32) 80 x1 x2 (0 : Int32) rH fH) (fun fH_30 =>
    nm (x2 + (1 : Int32)) (fun v_32 =>
    f_X2_settle_L15 x1 rT fT rH k_ v_32 fH_30)))))
def f_X2_settle_L2 (rT : Int32) (fT : (Nat → Int32)) (rH : Int32) : Nat → Int32 → (Nat → Int32) →  Option ((Nat → Int32))
  | 0, _, _ => none
  | k_ + 1, x1, fH =>
    bd (f_X3_rows rT) (fun r_36 =>
    if r_36 ≤ x1 then
    (some fH)
    else
    (bd (f_X2_settle_L15 x1 rT fT rH FU (0 : Int32) fH) (fun fH_39 =>
    nm (x1 + (1 : Int32)) (fun v_41 =>
    f_X2_settle_L2 rT fT rH k_ v_41 fH_39))))
def f_X2_settle (rT : Int32) (fT : (Nat → Int32)) (rG : Int32) (fG : (Nat → Int32)) (rH : Int32) (fH : (Nat → Int32)) : Option ((Nat → Int32)) :=
  bd (f_X2_settle_L2 rT fT rH FU (0 : Int32) fH) (fun fH_42 =>
  bd (f_X2_settle_L65 rT fT rG fG rH FU (1 : Int32) (0 : Int32) fH_42) (fun fH_44 =>
  some fH_44))
def f_X2_takeOver (rP : Int32) (fP : (Nat → Int32)) (rT : Int32) (fT : (Nat → Int32)) (rG : Int32) (fG : (Nat → Int32)) (rL : Int32) (fL : (Nat → Int32)) (rH : Int32) (fH : (Nat → Int32)) (gi : Int32) (di : Int32) (re : Int32) (ti : Int32) (rP2 : Int32) (fP2 : (Nat → Int32)) (rT2 : Int32) (fT2 : (Nat → Int32)) (rG2 : Int32) (fG2 : (Nat → Int32)) (rL2 : Int32) (fL2 : (Nat → Int32)) (rH2 : Int32) (fH2 : (Nat → Int32)) (gi2 : Int32) (di2 : Int32) (re2 : Int32) (ti2 : Int32) : Option (Int32 × (Nat → Int32) × Int32 × (Nat → Int32) × Int32 × (Nat → Int32) × Int32 × (Nat → Int32) × Int32 × (Nat → Int32) × Int32 × Int32 × Int32 × Int32) :=
  bd2 (f_X3_takeOver (10 : Int32) (2 : Int32) 20 20 rP fP rP2 fP2) (fun rP_1 fP_2 =>
  bd2 (f_X3_takeOver (8 : Int32) (2 : Int32) 16 16 rT fT rT2 fT2) (fun rT_4 fT_5 =>
  bd2 (f_X3_takeOver (40 : Int32) (6 : Int32) 240 240 rG fG rG2 fG2) (fun rG_7 fG_8 =>
  bd2 (f_X3_takeOver (12 : Int32) (3 : Int32) 36 36 rL fL rL2 fL2) (fun rL_10 fL_11 =>
  bd2 (f_X3_takeOver (8 : Int32) (10 : Int32) 80 80 rH fH rH2 fH2) (fun rH_13 fH_14 =>
  some (rP_1, fP_2, rT_4, fT_5, rG_7, fG_8, rL_10, fL_11, rH_13, fH_14, gi2, di2, re2, ti2))))))
def f_X2_takeIn (x1 : Int32) (x2 : Int32) (rT : Int32) (fT : (Nat → Int32)) (rG : Int32) (fG : (Nat → Int32)) (rH : Int32) (fH : (Nat → Int32)) : Option (Int32 × Int32 × (Nat → Int32) × Int32 × (Nat → Int32)) :=
  bd2 (f_X3_addRow (8 : Int32) rT) (fun r_1 rT_2 =>
  bd (f_X3_put (2 : Int32) 16 r_1 (0 : Int32) x1 rT_2 fT) (fun fT_4 =>
  bd (f_X3_put (2 : Int32) 16 r_1 (1 : Int32) x2 rT_2 fT_4) (fun fT_6 =>
  bd2 (f_X3_addRow (8 : Int32) rH) (fun r_8 rH_9 =>
  bd (f_X2_settle rT_2 fT_6 rG fG rH_9 fH) (fun fH_11 =>
  some (r_1, rT_2, fT_6, rH_9, fH_11))))))
def f_X2_changeThing (x1 : Int32) (x2 : Int32) (x3 : Int32) (rT : Int32) (fT : (Nat → Int32)) (rG : Int32) (fG : (Nat → Int32)) (rH : Int32) (fH : (Nat → Int32)) : Option (Int32 × (Nat → Int32) × (Nat → Int32)) :=
  bd (f_X3_at (2 : Int32) 16 x1 x2 rT fT) (fun r_1 =>
  bd (f_X3_put (2 : Int32) 16 x1 x2 x3 rT fT) (fun fT_3 =>
  bd (f_X2_settle rT fT_3 rG fG rH fH) (fun fH_5 =>
  some (r_1, fT_3, fH_5))))
def f_X2_faultOfGrant (x1 : Int32) (x2 : Int32) (x3 : Int32) (x4 : Int32) (x5 : Int32) (rP : Int32) (fP : (Nat → Int32)) (rT : Int32) (rG : Int32) (rH : Int32) (fH : (Nat → Int32)) : Option (Int32) :=
  bd (f_X5_isPerson x1) (fun r_1 =>
  if r_1 = (0 : Int32) then
  (some (1 : Int32))
  else
  (bd (f_X5_isPerson x2) (fun r_4 =>
  if r_4 = (0 : Int32) then
  (some (1 : Int32))
  else
  (bd (f_X3_has x3 rT) (fun r_7 =>
  if r_7 = (0 : Int32) then
  (some (1 : Int32))
  else
  (bd (f_X5_isBetween x4 (1 : Int32) (7 : Int32)) (fun r_10 =>
  if r_10 = (0 : Int32) then
  (some (2 : Int32))
  else
  (bd (f_X5_isBetween x5 (0 : Int32) (100 : Int32)) (fun r_14 =>
  if r_14 = (0 : Int32) then
  (some (2 : Int32))
  else
  (if x1 = x2 then
  (some (2 : Int32))
  else
  (nm (x4 ||| (4 : Int32)) (fun v_20 =>
  bd (f_X2_rightsOf x1 x3 rH fH) (fun r_21 =>
  if r_21 &&& v_20 = v_20 then
  (bd (f_X3_at (2 : Int32) 20 x1 (0 : Int32) rP fP) (fun r_29 =>
  if r_29 < x5 then
  (some (3 : Int32))
  else
  (bd (f_X3_isFull (40 : Int32) rG) (fun r_36 =>
  if r_36 = (0 : Int32) then
  (some (0 : Int32))
  else
  (some (3 : Int32))))))
  else
  (bd (f_X3_at (2 : Int32) 20 x1 (0 : Int32) rP fP) (fun r_24 =>
  if r_24 < x5 then
  (some (3 : Int32))
  else
  (some (3 : Int32)))))))))))))))))
def f_X2_lend (x1 : Int32) (x2 : Int32) (x3 : Int32) (x4 : Int32) (x5 : Int32) (rT : Int32) (fT : (Nat → Int32)) (rG : Int32) (fG : (Nat → Int32)) (rH : Int32) (fH : (Nat → Int32)) (gi : Int32) : Option (Int32 × Int32 × (Nat → Int32) × (Nat → Int32) × Int32) :=
  bd2 (f_X3_addRow (40 : Int32) rG) (fun r_1 rG_2 =>
  bd (f_X3_put (6 : Int32) 240 r_1 (0 : Int32) x1 rG_2 fG) (fun fG_4 =>
  bd (f_X3_put (6 : Int32) 240 r_1 (1 : Int32) x2 rG_2 fG_4) (fun fG_6 =>
  bd (f_X3_put (6 : Int32) 240 r_1 (2 : Int32) x3 rG_2 fG_6) (fun fG_8 =>
  bd (f_X3_put (6 : Int32) 240 r_1 (3 : Int32) x4 rG_2 fG_8) (fun fG_10 =>
  bd (f_X3_put (6 : Int32) 240 r_1 (4 : Int32) x5 rG_2 fG_10) (fun fG_12 =>
  bd (f_X3_put (6 : Int32) 240 r_1 (5 : Int32) gi rG_2 fG_12) (fun fG_14 =>
  nm (gi + (1 : Int32)) (fun v_16 =>
  bd (f_X2_settle rT fT rG_2 fG_14 rH fH) (fun fH_17 =>
  some (gi, rG_2, fG_14, fH_17, v_16))))))))))
def f_X2_takeBack (x1 : Int32) (rT : Int32) (fT : (Nat → Int32)) (rG : Int32) (fG : (Nat → Int32)) (rH : Int32) (fH : (Nat → Int32)) (re : Int32) : Option (Int32 × Int32 × (Nat → Int32) × (Nat → Int32) × Int32) :=
  bd (f_X2_countPairs rT rH fH) (fun r_1 =>
  bd2 (f_X3_drop (6 : Int32) 240 x1 rG fG) (fun rG_3 fG_4 =>
  nm (re + (1 : Int32)) (fun v_6 =>
  bd (f_X2_settle rT fT rG_3 fG_4 rH fH) (fun fH_7 =>
  bd (f_X2_countPairs rT rH fH_7) (fun r_9 =>
  nm (r_1 - r_9) (fun v_11 =>
  some (v_11, rG_3, fG_4, fH_7, v_6)))))))
def f_X2_hasTimeFor (x1 : Int32) (ti : Int32) : Option (Int32) :=
  if (100000 : Int32) < ti + x1 then
  (some (0 : Int32))
  else
  (some (1 : Int32))
def f_X2_calm (x1 : Int32) (rP : Int32) (fP : (Nat → Int32)) : Option ((Nat → Int32)) :=
  bd (f_X3_at (2 : Int32) 20 x1 (0 : Int32) rP fP) (fun r_1 =>
  bd (f_X3_at (2 : Int32) 20 x1 (1 : Int32) rP fP) (fun r_3 =>
  if r_1 = r_3 then
  (some fP)
  else
  (if r_3 ≤ r_1 then
  (bd (f_X3_put (2 : Int32) 20 x1 (0 : Int32) (r_1 - (1 : Int32)) rP fP) (fun fP_7 =>
  some fP_7))
  else
  (bd (f_X3_put (2 : Int32) 20 x1 (0 : Int32) (r_1 + (1 : Int32)) rP fP) (fun fP_9 =>
  some fP_9)))))
def f_X2_isDying (x1 : Int32) (rP : Int32) (fP : (Nat → Int32)) (rG : Int32) (fG : (Nat → Int32)) : Option (Int32) :=
  bd (f_X3_at (6 : Int32) 240 x1 (0 : Int32) rG fG) (fun r_1 =>
  bd (f_X3_at (2 : Int32) 20 r_1 (0 : Int32) rP fP) (fun r_3 =>
  bd (f_X3_at (6 : Int32) 240 x1 (4 : Int32) rG fG) (fun r_5 =>
  if r_5 ≤ r_3 then
  (some (0 : Int32))
  else
  (some (1 : Int32)))))
def f_X2_enter (x1 : Int32) (rG : Int32) (fG : (Nat → Int32)) (rL : Int32) (fL : (Nat → Int32)) (ti : Int32) : Option (Int32 × (Nat → Int32)) :=
  bd (f_X3_isFull (12 : Int32) rL) (fun r_1 =>
  if r_1 = (0 : Int32) then
  (bd2 (f_X3_addRow (12 : Int32) rL) (fun r_4 rL_5 =>
  bd (f_X3_at (6 : Int32) 240 x1 (5 : Int32) rG fG) (fun r_7 =>
  bd (f_X3_put (3 : Int32) 36 r_4 (0 : Int32) r_7 rL_5 fL) (fun fL_9 =>
  bd (f_X3_put (3 : Int32) 36 r_4 (1 : Int32) ti rL_5 fL_9) (fun fL_11 =>
  bd (f_X3_at (6 : Int32) 240 x1 (0 : Int32) rG fG) (fun r_13 =>
  bd (f_X3_put (3 : Int32) 36 r_4 (2 : Int32) r_13 rL_5 fL_11) (fun fL_15 =>
  some (rL_5, fL_15))))))))
  else
  (bd2 (f_X3_drop (3 : Int32) 36 (0 : Int32) rL fL) (fun rL_17 fL_18 =>
  bd2 (f_X3_addRow (12 : Int32) rL_17) (fun r_20 rL_21 =>
  bd (f_X3_at (6 : Int32) 240 x1 (5 : Int32) rG fG) (fun r_23 =>
  bd (f_X3_put (3 : Int32) 36 r_20 (0 : Int32) r_23 rL_21 fL_18) (fun fL_25 =>
  bd (f_X3_put (3 : Int32) 36 r_20 (1 : Int32) ti rL_21 fL_25) (fun fL_27 =>
  bd (f_X3_at (6 : Int32) 240 x1 (0 : Int32) rG fG) (fun r_29 =>
  bd (f_X3_put (3 : Int32) 36 r_20 (2 : Int32) r_29 rL_21 fL_27) (fun fL_31 =>
  some (rL_21, fL_31))))))))))
def f_X2_buryDying_L47 (x1 : Int32) (rP : Int32) (fP : (Nat → Int32)) : Nat → Int32 → Int32 → (Nat → Int32) →  Option (Int32 × (Nat → Int32))
  | 0, _, _, _ => none
  | k_ + 1, x2, rG, fG =>
    if x2 < (0 : Int32) then
    (some (rG, fG))
    else
    (if x1 ≤ (0 : Int32) then
    (some (rG, fG))
    else
    (bd (f_X2_isDying x2 rP fP rG fG) (fun r_3 =>
    if r_3 = (0 : Int32) then
    (nm (x2 + (-1 : Int32)) (fun v_6 =>
    f_X2_buryDying_L47 x1 rP fP k_ v_6 rG fG))
    else
    (bd2 (f_X3_drop (6 : Int32) 240 x2 rG fG) (fun rG_7 fG_8 =>
    nm (x2 + (-1 : Int32)) (fun v_10 =>
    f_X2_buryDying_L47 x1 rP fP k_ v_10 rG_7 fG_8))))))
def f_X2_buryDying_L4 (rP : Int32) (fP : (Nat → Int32)) (rG : Int32) (fG : (Nat → Int32)) (ti : Int32) : Nat → Int32 → Int32 → Int32 → (Nat → Int32) →  Option (Int32 × Int32 × (Nat → Int32))
  | 0, _, _, _, _ => none
  | k_ + 1, x1, x2, rL, fL =>
    bd (f_X3_rows rG) (fun r_11 =>
    if r_11 ≤ x2 then
    (some (x1, rL, fL))
    else
    (bd (f_X2_isDying x2 rP fP rG fG) (fun r_14 =>
    if r_14 = (0 : Int32) then
    (nm (x2 + (1 : Int32)) (fun v_17 =>
    f_X2_buryDying_L4 rP fP rG fG ti k_ x1 v_17 rL fL))
    else
    (bd2 (f_X2_enter x2 rG fG rL fL ti) (fun rL_18 fL_19 =>
    nm (x1 + (1 : Int32)) (fun v_21 =>
    nm (x2 + (1 : Int32)) (fun v_22 =>
    f_X2_buryDying_L4 rP fP rG fG ti k_ v_21 v_22 rL_18 fL_19)))))))
def f_X2_buryDying (rP : Int32) (fP : (Nat → Int32)) (rG : Int32) (fG : (Nat → Int32)) (rL : Int32) (fL : (Nat → Int32)) (di : Int32) (ti : Int32) : Option (Int32 × Int32 × (Nat → Int32) × Int32 × (Nat → Int32) × Int32) :=
  bd3 (f_X2_buryDying_L4 rP fP rG fG ti FU (0 : Int32) (0 : Int32) rL fL) (fun y1_23 rL_24 fL_25 =>
  bd (f_X3_rows rG) (fun r_27 =>
  nm (r_27 - (1 : Int32)) (fun v_29 =>
  bd2 (f_X2_buryDying_L47 y1_23 rP fP FU v_29 rG fG) (fun rG_30 fG_31 =>
  nm (di + y1_23) (fun v_33 =>
  some (y1_23, rG_30, fG_31, rL_24, fL_25, v_33))))))
def f_X2_changeMood (x1 : Int32) (x2 : Int32) (rP : Int32) (fP : (Nat → Int32)) (rT : Int32) (fT : (Nat → Int32)) (rG : Int32) (fG : (Nat → Int32)) (rL : Int32) (fL : (Nat → Int32)) (rH : Int32) (fH : (Nat → Int32)) (di : Int32) (ti : Int32) : Option (Int32 × (Nat → Int32) × Int32 × (Nat → Int32) × Int32 × (Nat → Int32) × (Nat → Int32) × Int32) :=
  bd (f_X3_at (2 : Int32) 20 x1 (0 : Int32) rP fP) (fun r_1 =>
  nm (r_1 + x2) (fun v_3 =>
  nm (if (0 : Int32) < (if v_3 < (100 : Int32) then v_3 else (100 : Int32)) then (if v_3 < (100 : Int32) then v_3 else (100 : Int32)) else (0 : Int32)) (fun v_4 =>
  bd (f_X3_put (2 : Int32) 20 x1 (0 : Int32) v_4 rP fP) (fun fP_5 =>
  bd6 (f_X2_buryDying rP fP_5 rG fG rL fL di ti) (fun r_7 rG_8 fG_9 rL_10 fL_11 di_12 =>
  if r_7 ≤ (0 : Int32) then
  (some (v_4, fP_5, rG_8, fG_9, rL_10, fL_11, fH, di_12))
  else
  (bd (f_X2_settle rT fT rG_8 fG_9 rH fH) (fun fH_15 =>
  some (v_4, fP_5, rG_8, fG_9, rL_10, fL_11, fH_15, di_12))))))))
def f_X2_letPass_L12 (rP : Int32) : Nat → Int32 → (Nat → Int32) →  Option ((Nat → Int32))
  | 0, _, _ => none
  | k_ + 1, x4, fP =>
    if (10 : Int32) ≤ x4 then
    (some fP)
    else
    (bd (f_X2_calm x4 rP fP) (fun fP_2 =>
    nm (x4 + (1 : Int32)) (fun v_4 =>
    f_X2_letPass_L12 rP k_ v_4 fP_2)))
def f_X2_letPass_L4 (x1 : Int32) (rP : Int32) : Nat → Int32 → Int32 → (Nat → Int32) → Int32 → (Nat → Int32) → Int32 → (Nat → Int32) → Int32 → Int32 →  Option (Int32 × (Nat → Int32) × Int32 × (Nat → Int32) × Int32 × (Nat → Int32) × Int32 × Int32)
  | 0, _, _, _, _, _, _, _, _, _ => none
  | k_ + 1, x2, x3, fP, rG, fG, rL, fL, di, ti =>
    if x1 ≤ x3 then
    (some (x2, fP, rG, fG, rL, fL, di, ti))
    else
    (bd (f_X2_letPass_L12 rP FU (0 : Int32) fP) (fun fP_6 =>
    nm (ti + (1 : Int32)) (fun v_8 =>
    bd6 (f_X2_buryDying rP fP_6 rG fG rL fL di v_8) (fun r_9 rG_10 fG_11 rL_12 fL_13 di_14 =>
    nm (x2 + r_9) (fun v_16 =>
    nm (x3 + (1 : Int32)) (fun v_17 =>
    f_X2_letPass_L4 x1 rP k_ v_16 v_17 fP_6 rG_10 fG_11 rL_12 fL_13 di_14 v_8))))))
def f_X2_letPass (x1 : Int32) (rP : Int32) (fP : (Nat → Int32)) (rT : Int32) (fT : (Nat → Int32)) (rG : Int32) (fG : (Nat → Int32)) (rL : Int32) (fL : (Nat → Int32)) (rH : Int32) (fH : (Nat → Int32)) (di : Int32) (ti : Int32) : Option (Int32 × (Nat → Int32) × Int32 × (Nat → Int32) × Int32 × (Nat → Int32) × (Nat → Int32) × Int32 × Int32) :=
  bd8 (f_X2_letPass_L4 x1 rP FU (0 : Int32) (0 : Int32) fP rG fG rL fL di ti) (fun y2_18 fP_19 rG_20 fG_21 rL_22 fL_23 di_24 ti_25 =>
  if y2_18 ≤ (0 : Int32) then
  (some (y2_18, fP_19, rG_20, fG_21, rL_22, fL_23, fH, di_24, ti_25))
  else
  (bd (f_X2_settle rT fT rG_20 fG_21 rH fH) (fun fH_28 =>
  some (y2_18, fP_19, rG_20, fG_21, rL_22, fL_23, fH_28, di_24, ti_25))))
def f_X2_aboutPerson (x1 : Int32) (x2 : Int32) (rP : Int32) (fP : (Nat → Int32)) (rT : Int32) (fT : (Nat → Int32)) (rG : Int32) (fG : (Nat → Int32)) (rH : Int32) (fH : (Nat → Int32)) : Option (Int32) :=
  if x2 = (0 : Int32) then
  (bd (f_X3_at (2 : Int32) 20 x1 (0 : Int32) rP fP) (fun r_2 =>
  some r_2))
  else
  (if x2 = (1 : Int32) then
  (bd (f_X3_at (2 : Int32) 20 x1 (1 : Int32) rP fP) (fun r_5 =>
  some r_5))
  else
  (if x2 = (2 : Int32) then
  (bd (f_X2_countEqual (2 : Int32) 16 (0 : Int32) x1 rT fT) (fun r_8 =>
  some r_8))
  else
  (if x2 = (3 : Int32) then
  (bd (f_X2_thingsSeenBy x1 rT rH fH) (fun r_11 =>
  bd (f_J6_bitCount_0f7a4 r_11) (fun r_13 =>
  some r_13)))
  else
  (if x2 = (4 : Int32) then
  (bd (f_X2_countEqual (6 : Int32) 240 (0 : Int32) x1 rG fG) (fun r_16 =>
  some r_16))
  else
  (if x2 = (5 : Int32) then
  (bd (f_X2_countEqual (6 : Int32) 240 (1 : Int32) x1 rG fG) (fun r_19 =>
  some r_19))
  else
  (bd (f_X2_thingsSeenBy x1 rT rH fH) (fun r_21 =>
  some r_21)))))))
def f_X2_aboutThing (x1 : Int32) (x2 : Int32) (rT : Int32) (fT : (Nat → Int32)) (rG : Int32) (fG : (Nat → Int32)) (rH : Int32) (fH : (Nat → Int32)) : Option (Int32) :=
  if x2 = (0 : Int32) then
  (bd (f_X3_at (2 : Int32) 16 x1 (0 : Int32) rT fT) (fun r_2 =>
  some r_2))
  else
  (if x2 = (1 : Int32) then
  (bd (f_X3_at (2 : Int32) 16 x1 (1 : Int32) rT fT) (fun r_5 =>
  some r_5))
  else
  (if x2 = (2 : Int32) then
  (bd (f_X2_countEqual (6 : Int32) 240 (2 : Int32) x1 rG fG) (fun r_8 =>
  some r_8))
  else
  (if x2 = (3 : Int32) then
  (bd (f_X2_holdersOf x1 (1 : Int32) rH fH) (fun r_11 =>
  some r_11))
  else
  (if x2 = (4 : Int32) then
  (bd (f_X2_holdersOf x1 (2 : Int32) rH fH) (fun r_14 =>
  some r_14))
  else
  (bd (f_X2_holdersOf x1 (4 : Int32) rH fH) (fun r_16 =>
  some r_16))))))
def f_X2_aboutGrant (x1 : Int32) (x2 : Int32) (rT : Int32) (fT : (Nat → Int32)) (rG : Int32) (fG : (Nat → Int32)) (rH : Int32) (fH : (Nat → Int32)) : Option (Int32) :=
  if (4 : Int32) < x2 then
  (bd (f_X2_passedOn x1 rT fT rG fG rH fH) (fun r_2 =>
  some r_2))
  else
  (bd (f_X3_at (6 : Int32) 240 x1 x2 rG fG) (fun r_4 =>
  some r_4))
def f_X2_aboutEntry (x1 : Int32) (x2 : Int32) (rL : Int32) (fL : (Nat → Int32)) : Option (Int32) :=
  bd (f_X3_rows rL) (fun r_1 =>
  bd (f_X3_at (3 : Int32) 36 ((r_1 - (1 : Int32)) - x1) x2 rL fL) (fun r_3 =>
  some r_3))
def f_X2_aboutHouse (x1 : Int32) (rT : Int32) (fT : (Nat → Int32)) (rG : Int32) (fG : (Nat → Int32)) (rL : Int32) (rH : Int32) (fH : (Nat → Int32)) (gi : Int32) (di : Int32) (re : Int32) (ti : Int32) : Option (Int32) :=
  if x1 = (0 : Int32) then
  (bd (f_X3_rows rT) (fun r_2 =>
  some r_2))
  else
  (if x1 = (1 : Int32) then
  (bd (f_X3_rows rG) (fun r_5 =>
  some r_5))
  else
  (if x1 = (2 : Int32) then
  (some gi)
  else
  (if x1 = (3 : Int32) then
  (some di)
  else
  (if x1 = (4 : Int32) then
  (some re)
  else
  (if x1 = (5 : Int32) then
  (some ti)
  else
  (if x1 = (6 : Int32) then
  (bd (f_X2_countPairs rT rH fH) (fun r_12 =>
  some r_12))
  else
  (if x1 = (7 : Int32) then
  (bd (f_X2_countIdleGrants rT fT rG fG rH fH) (fun r_15 =>
  some r_15))
  else
  (bd (f_X3_rows rL) (fun r_17 =>
  some r_17)))))))))
def f_X2_reasonAgainst_L35 (x1 : Int32) (x2 : Int32) (x3 : Int32) (rG : Int32) (fG : (Nat → Int32)) (rH : Int32) (fH : (Nat → Int32)) : Nat → Int32 → Int32 →  Option (Int32)
  | 0, _, _ => none
  | k_ + 1, x4, x5 =>
    bd (f_X3_rows rG) (fun r_1 =>
    if r_1 ≤ x5 then
    (some x4)
    else
    (bd (f_X2_isGrantOf x5 x1 x2 x3 rG fG) (fun r_4 =>
    if r_4 = (0 : Int32) then
    (nm (x5 + (1 : Int32)) (fun v_7 =>
    f_X2_reasonAgainst_L35 x1 x2 x3 rG fG rH fH k_ x4 v_7))
    else
    (bd (f_X3_at (6 : Int32) 240 x5 (0 : Int32) rG fG) (fun r_8 =>
    bd (f_X2_rightsOf r_8 x2 rH fH) (fun r_10 =>
    if r_10 &&& (4 : Int32) = (0 : Int32) then
    (nm (if x4 < (3 : Int32) then (3 : Int32) else x4) (fun v_15 =>
    nm (x5 + (1 : Int32)) (fun v_16 =>
    f_X2_reasonAgainst_L35 x1 x2 x3 rG fG rH fH k_ v_15 v_16)))
    else
    (nm (if x4 < (4 : Int32) then (4 : Int32) else x4) (fun v_13 =>
    nm (x5 + (1 : Int32)) (fun v_14 =>
    f_X2_reasonAgainst_L35 x1 x2 x3 rG fG rH fH k_ v_13 v_14)))))))))
def f_X2_reasonAgainst (x1 : Int32) (x2 : Int32) (x3 : Int32) (rT : Int32) (fT : (Nat → Int32)) (rG : Int32) (fG : (Nat → Int32)) (rH : Int32) (fH : (Nat → Int32)) : Option (Int32) :=
  bd (f_X2_rightsOf x1 x2 rH fH) (fun r_17 =>
  if r_17 &&& x3 = (0 : Int32) then
  (bd (f_X3_at (2 : Int32) 16 x2 (1 : Int32) rT fT) (fun r_20 =>
  if r_20 &&& x3 = (0 : Int32) then
  (some (1 : Int32))
  else
  (bd (f_X2_reasonAgainst_L35 x1 x2 x3 rG fG rH fH FU (2 : Int32) (0 : Int32)) (fun y4_23 =>
  some y4_23))))
  else
  (some (0 : Int32)))
def f_X0_stepsTo (x1 : Int32) (rS : Int32) (fS : (Nat → Int32)) : Option (Int32) :=
  bd (f_X3_at (10 : Int32) 10 (0 : Int32) x1 rS fS) (fun r_1 =>
  some r_1)
def f_X0_isLink (x2 : Int32) (x3 : Int32) (x4 : Int32) (rS : Int32) (fS : (Nat → Int32)) (rT : Int32) (fT : (Nat → Int32)) (rG : Int32) (fG : (Nat → Int32)) (rH : Int32) (fH : (Nat → Int32)) : Option (Int32) :=
  bd (f_X3_at (6 : Int32) 240 x2 (2 : Int32) rG fG) (fun r_1 =>
  if r_1 = x3 then
  (bd (f_X3_at (6 : Int32) 240 x2 (0 : Int32) rG fG) (fun r_4 =>
  bd (f_X0_stepsTo r_4 rS fS) (fun r_6 =>
  if r_6 = x4 - (1 : Int32) then
  (bd (f_X2_passedOn x2 rT fT rG fG rH fH) (fun r_9 =>
  if r_9 &&& (1 : Int32) = (0 : Int32) then
  (some (0 : Int32))
  else
  (some (1 : Int32))))
  else
  (some (0 : Int32)))))
  else
  (some (0 : Int32)))
def f_X0_measure_L62 (x2 : Int32) (x4 : Int32) (rS : Int32) (rT : Int32) (fT : (Nat → Int32)) (rG : Int32) (fG : (Nat → Int32)) (rH : Int32) (fH : (Nat → Int32)) : Nat → Int32 → Int32 → (Nat → Int32) →  Option (Int32 × (Nat → Int32))
  | 0, _, _, _ => none
  | k_ + 1, x3, x5, fS =>
    bd (f_X3_rows rG) (fun r_1 =>
    if r_1 ≤ x5 then
    (some (x3, fS))
    else
    (bd (f_X3_at (6 : Int32) 240 x5 (1 : Int32) rG fG) (fun r_4 =>
    bd (f_X0_stepsTo r_4 rS fS) (fun r_6 =>
    if r_6 = (-1 : Int32) then
    (bd (f_X0_isLink x5 x2 x4 rS fS rT fT rG fG rH fH) (fun r_10 =>
    if r_10 = (0 : Int32) then
    (nm (x5 + (1 : Int32)) (fun v_13 =>
    f_X0_measure_L62 x2 x4 rS rT fT rG fG rH fH k_ x3 v_13 fS))
    else
    (bd (f_X3_put (10 : Int32) 10 (0 : Int32) r_4 x4 rS fS) (fun fS_14 =>
    nm (x5 + (1 : Int32)) (fun v_16 =>
    f_X0_measure_L62 x2 x4 rS rT fT rG fG rH fH k_ (1 : Int32) v_16 fS_14)))))
    else
    (nm (x5 + (1 : Int32)) (fun v_9 =>
    f_X0_measure_L62 x2 x4 rS rT fT rG fG rH fH k_ x3 v_9 fS))))))
def f_X0_measure_L46 (x2 : Int32) (rS : Int32) (rT : Int32) (fT : (Nat → Int32)) (rG : Int32) (fG : (Nat → Int32)) (rH : Int32) (fH : (Nat → Int32)) : Nat → Int32 → Int32 → (Nat → Int32) →  Option ((Nat → Int32))
  | 0, _, _, _ => none
  | k_ + 1, x3, x4, fS =>
    if (10 : Int32) ≤ x4 then
    (some fS)
    else
    (if x3 = (0 : Int32) then
    (some fS)
    else
    (bd2 (f_X0_measure_L62 x2 x4 rS rT fT rG fG rH fH FU (0 : Int32) (0 : Int32) fS) (fun y3_19 fS_20 =>
    nm (x4 + (1 : Int32)) (fun v_22 =>
    f_X0_measure_L46 x2 rS rT fT rG fG rH fH k_ y3_19 v_22 fS_20))))
def f_X0_measure_L2 (x2 : Int32) (rS : Int32) (rT : Int32) (fT : (Nat → Int32)) : Nat → Int32 → (Nat → Int32) →  Option ((Nat → Int32))
  | 0, _, _ => none
  | k_ + 1, x3, fS =>
    if (10 : Int32) ≤ x3 then
    (some fS)
    else
    (bd (f_X3_at (2 : Int32) 16 x2 (0 : Int32) rT fT) (fun r_24 =>
    if x3 = r_24 then
    (bd (f_X3_put (10 : Int32) 10 (0 : Int32) x3 (0 : Int32) rS fS) (fun fS_30 =>
    nm (x3 + (1 : Int32)) (fun v_32 =>
    f_X0_measure_L2 x2 rS rT fT k_ v_32 fS_30)))
    else
    (bd (f_X3_put (10 : Int32) 10 (0 : Int32) x3 (-1 : Int32) rS fS) (fun fS_27 =>
    nm (x3 + (1 : Int32)) (fun v_29 =>
    f_X0_measure_L2 x2 rS rT fT k_ v_29 fS_27)))))
def f_X0_measure (x2 : Int32) (rS : Int32) (fS : (Nat → Int32)) (rT : Int32) (fT : (Nat → Int32)) (rG : Int32) (fG : (Nat → Int32)) (rH : Int32) (fH : (Nat → Int32)) : Option ((Nat → Int32)) :=
  bd (f_X0_measure_L2 x2 rS rT fT FU (0 : Int32) fS) (fun fS_33 =>
  bd (f_X0_measure_L46 x2 rS rT fT rG fG rH fH FU (1 : Int32) (1 : Int32) fS_33) (fun fS_35 =>
  some fS_35))
def f_X0_lastLink_L3 (x2 : Int32) (x3 : Int32) (x4 : Int32) (rS : Int32) (fS : (Nat → Int32)) (rT : Int32) (fT : (Nat → Int32)) (rG : Int32) (fG : (Nat → Int32)) (rH : Int32) (fH : (Nat → Int32)) : Nat → Int32 →  Option (Int32)
  | 0, _ => none
  | k_ + 1, x5 =>
    bd (f_X3_rows rG) (fun r_1 =>
    if r_1 ≤ x5 then
    (some (-1 : Int32))
    else
    (bd (f_X3_at (6 : Int32) 240 x5 (1 : Int32) rG fG) (fun r_4 =>
    if r_4 = x2 then
    (bd (f_X0_isLink x5 x3 x4 rS fS rT fT rG fG rH fH) (fun r_10 =>
    if r_10 = (0 : Int32) then
    (nm (x5 + (1 : Int32)) (fun v_13 =>
    f_X0_lastLink_L3 x2 x3 x4 rS fS rT fT rG fG rH fH k_ v_13))
    else
    (some x5)))
    else
    (nm (x5 + (1 : Int32)) (fun v_8 =>
    f_X0_lastLink_L3 x2 x3 x4 rS fS rT fT rG fG rH fH k_ v_8)))))
def f_X0_lastLink (x2 : Int32) (x3 : Int32) (x4 : Int32) (rS : Int32) (fS : (Nat → Int32)) (rT : Int32) (fT : (Nat → Int32)) (rG : Int32) (fG : (Nat → Int32)) (rH : Int32) (fH : (Nat → Int32)) : Option (Int32) :=
  f_X0_lastLink_L3 x2 x3 x4 rS fS rT fT rG fG rH fH FU (0 : Int32)
def f_X0_numberAt_L13 (x3 : Int32) (x4 : Int32) (rS : Int32) (fS : (Nat → Int32)) (rT : Int32) (fT : (Nat → Int32)) (rG : Int32) (fG : (Nat → Int32)) (rH : Int32) (fH : (Nat → Int32)) : Nat → Int32 → Int32 → Int32 →  Option (Int32)
  | 0, _, _, _ => none
  | k_ + 1, x5, x6, x7 =>
    if x7 ≤ x4 then
    (some x5)
    else
    (if x7 ≤ (0 : Int32) then
    (some x5)
    else
    (bd (f_X0_lastLink x6 x3 x7 rS fS rT fT rG fG rH fH) (fun r_3 =>
    bd (f_X3_at (6 : Int32) 240 r_3 (5 : Int32) rG fG) (fun r_5 =>
    bd (f_X3_at (6 : Int32) 240 r_3 (0 : Int32) rG fG) (fun r_7 =>
    nm (x7 + (-1 : Int32)) (fun v_9 =>
    f_X0_numberAt_L13 x3 x4 rS fS rT fT rG fG rH fH k_ r_5 r_7 v_9))))))
def f_X0_numberAt (x2 : Int32) (x3 : Int32) (x4 : Int32) (rS : Int32) (fS : (Nat → Int32)) (rT : Int32) (fT : (Nat → Int32)) (rG : Int32) (fG : (Nat → Int32)) (rH : Int32) (fH : (Nat → Int32)) : Option (Int32) :=
  bd (f_X0_stepsTo x2 rS fS) (fun r_10 =>
  bd (f_X0_numberAt_L13 x3 x4 rS fS rT fT rG fG rH fH FU (-1 : Int32) x2 r_10) (fun y5_12 =>
  some y5_12))
def f_X4_length (rB : Int32) : Option (Int32) :=
  bd (f_X3_rows rB) (fun r_1 =>
  some r_1)
def f_X4_isFull (rB : Int32) : Option (Int32) :=
  bd (f_X3_isFull (100 : Int32) rB) (fun r_1 =>
  some r_1)
def f_X4_add (x1 : Int32) (rB : Int32) (fB : (Nat → Int32)) : Option (Int32 × (Nat → Int32)) :=
  bd2 (f_X3_addRow (100 : Int32) rB) (fun r_1 rB_2 =>
  bd (f_X3_put (1 : Int32) 100 r_1 (0 : Int32) x1 rB_2 fB) (fun fB_4 =>
  some (rB_2, fB_4)))
def f_X4_empty (rB : Int32) : Option (Int32) :=
  bd (f_X3_dropAll rB) (fun rB_1 =>
  some rB_1)
def f_X4_isDigit (x0 : Int32) : Option (Int32) :=
  bd (f_X5_isBetween x0 (48 : Int32) (57 : Int32)) (fun r_1 =>
  some r_1)
def f_X4_current (rB : Int32) (fB : (Nat → Int32)) (pl : Int32) : Option (Int32) :=
  bd (f_X3_has pl rB) (fun r_1 =>
  if r_1 = (0 : Int32) then
  (some (-1 : Int32))
  else
  (bd (f_X3_at (1 : Int32) 100 pl (0 : Int32) rB fB) (fun r_4 =>
  some r_4)))
def f_X4_fail (x1 : Int32) (fa : Int32) : Option (Int32) :=
  if fa = (-1 : Int32) then
  (some x1)
  else
  (some fa)
def f_X4_readByte (x1 : Int32) (rB : Int32) (fB : (Nat → Int32)) (pl : Int32) (fa : Int32) : Option (Int32 × Int32) :=
  bd (f_X4_current rB fB pl) (fun r_1 =>
  if r_1 = x1 then
  (nm (pl + (1 : Int32)) (fun v_4 =>
  some (v_4, fa)))
  else
  (bd (f_X4_fail pl fa) (fun fa_5 =>
  nm (pl + (1 : Int32)) (fun v_7 =>
  some (v_7, fa_5)))))
def f_X4_readSign (rB : Int32) (fB : (Nat → Int32)) (pl : Int32) (fa : Int32) : Option (Int32 × Int32 × Int32) :=
  bd (f_X4_current rB fB pl) (fun r_1 =>
  if r_1 = (45 : Int32) then
  (bd (f_X4_current rB fB pl) (fun r_15 =>
  if r_15 = (43 : Int32) then
  (nm (pl + (1 : Int32)) (fun v_18 =>
  some ((-1 : Int32), v_18, fa)))
  else
  (bd (f_X4_current rB fB pl) (fun r_19 =>
  if r_19 = (45 : Int32) then
  (nm (pl + (1 : Int32)) (fun v_22 =>
  some ((-1 : Int32), v_22, fa)))
  else
  (bd (f_X4_fail pl fa) (fun fa_23 =>
  nm (pl + (1 : Int32)) (fun v_25 =>
  some ((-1 : Int32), v_25, fa_23))))))))
  else
  (bd (f_X4_current rB fB pl) (fun r_4 =>
  if r_4 = (43 : Int32) then
  (nm (pl + (1 : Int32)) (fun v_7 =>
  some ((1 : Int32), v_7, fa)))
  else
  (bd (f_X4_current rB fB pl) (fun r_8 =>
  if r_8 = (45 : Int32) then
  (nm (pl + (1 : Int32)) (fun v_11 =>
  some ((1 : Int32), v_11, fa)))
  else
  (bd (f_X4_fail pl fa) (fun fa_12 =>
  nm (pl + (1 : Int32)) (fun v_14 =>
  some ((1 : Int32), v_14, fa_12)))))))))
def f_X4_readDigit (x1 : Int32) (x2 : Int32) (rB : Int32) (fB : (Nat → Int32)) (pl : Int32) (fa : Int32) : Option (Int32 × Int32 × Int32) :=
  bd (f_X4_current rB fB pl) (fun r_1 =>
  nm (r_1 - (48 : Int32)) (fun v_3 =>
  bd (f_X5_isBetween v_3 x1 x2) (fun r_4 =>
  if r_4 = (0 : Int32) then
  (bd (f_X4_fail pl fa) (fun fa_8 =>
  nm (pl + (1 : Int32)) (fun v_10 =>
  some (v_3, v_10, fa_8))))
  else
  (nm (pl + (1 : Int32)) (fun v_7 =>
  some (v_3, v_7, fa))))))
def f_X4_readNumber_L12 (x1 : Int32) (rB : Int32) (fB : (Nat → Int32)) : Nat → Int32 → Int32 → Int32 →  Option (Int32 × Int32)
  | 0, _, _, _ => none
  | k_ + 1, x5, x6, pl =>
    if x1 ≤ x6 then
    (some (x5, pl))
    else
    (bd (f_X4_current rB fB pl) (fun r_2 =>
    bd (f_X4_isDigit r_2) (fun r_4 =>
    if r_4 = (0 : Int32) then
    (some (x5, pl))
    else
    (bd (f_X4_current rB fB pl) (fun r_7 =>
    nm ((((10 : Int32) * x5) + r_7) - (48 : Int32)) (fun v_9 =>
    nm (pl + (1 : Int32)) (fun v_10 =>
    nm (x6 + (1 : Int32)) (fun v_11 =>
    f_X4_readNumber_L12 x1 rB fB k_ v_9 v_11 v_10))))))))
def f_X4_readNumber (x1 : Int32) (x2 : Int32) (x3 : Int32) (rB : Int32) (fB : (Nat → Int32)) (pl : Int32) (fa : Int32) : Option (Int32 × Int32 × Int32) :=
  bd2 (f_X4_readNumber_L12 x1 rB fB FU (0 : Int32) (0 : Int32) pl) (fun y5_12 pl_13 =>
  if pl_13 = pl then
  (bd (f_X4_fail pl_13 fa) (fun fa_16 =>
  some (y5_12, pl_13, fa_16)))
  else
  (bd (f_X4_current rB fB pl_13) (fun r_18 =>
  bd (f_X4_isDigit r_18) (fun r_20 =>
  if r_20 = (0 : Int32) then
  (bd (f_X5_isBetween y5_12 x2 x3) (fun r_23 =>
  if r_23 = (0 : Int32) then
  (bd (f_X4_fail pl fa) (fun fa_26 =>
  some (y5_12, pl_13, fa_26)))
  else
  (some (y5_12, pl_13, fa))))
  else
  (bd (f_X4_fail pl_13 fa) (fun fa_28 =>
  some (y5_12, pl_13, fa_28)))))))
def f_X4_readGrant (x1 : Int32) (rB : Int32) (fB : (Nat → Int32)) (rO : Int32) (fO : (Nat → Int32)) (pl : Int32) (fa : Int32) : Option ((Nat → Int32) × Int32 × Int32) :=
  bd3 (f_X4_readDigit (0 : Int32) (9 : Int32) rB fB pl fa) (fun r_1 pl_2 fa_3 =>
  bd (f_X3_put (6 : Int32) 600 x1 (1 : Int32) r_1 rO fO) (fun fO_5 =>
  bd3 (f_X4_readDigit (0 : Int32) (9 : Int32) rB fB pl_2 fa_3) (fun r_7 pl_8 fa_9 =>
  bd (f_X3_put (6 : Int32) 600 x1 (2 : Int32) r_7 rO fO_5) (fun fO_11 =>
  bd3 (f_X4_readDigit (0 : Int32) (7 : Int32) rB fB pl_8 fa_9) (fun r_13 pl_14 fa_15 =>
  bd (f_X3_put (6 : Int32) 600 x1 (3 : Int32) r_13 rO fO_11) (fun fO_17 =>
  bd3 (f_X4_readDigit (1 : Int32) (7 : Int32) rB fB pl_14 fa_15) (fun r_19 pl_20 fa_21 =>
  bd (f_X3_put (6 : Int32) 600 x1 (4 : Int32) r_19 rO fO_17) (fun fO_23 =>
  bd2 (f_X4_readByte (44 : Int32) rB fB pl_20 fa_21) (fun pl_25 fa_26 =>
  bd3 (f_X4_readNumber (3 : Int32) (0 : Int32) (100 : Int32) rB fB pl_25 fa_26) (fun r_28 pl_29 fa_30 =>
  bd (f_X3_put (6 : Int32) 600 x1 (5 : Int32) r_28 rO fO_23) (fun fO_32 =>
  some (fO_32, pl_29, fa_30))))))))))))
def f_X4_readOrder (x1 : Int32) (rB : Int32) (fB : (Nat → Int32)) (rO : Int32) (fO : (Nat → Int32)) (pl : Int32) (fa : Int32) : Option ((Nat → Int32) × Int32 × Int32) :=
  bd (f_X4_current rB fB pl) (fun r_1 =>
  bd (f_X3_put (6 : Int32) 600 x1 (0 : Int32) r_1 rO fO) (fun fO_3 =>
  nm (pl + (1 : Int32)) (fun v_5 =>
  if r_1 = (99 : Int32) then
  (bd3 (f_X4_readDigit (0 : Int32) (9 : Int32) rB fB v_5 fa) (fun r_7 pl_8 fa_9 =>
  bd (f_X3_put (6 : Int32) 600 x1 (1 : Int32) r_7 rO fO_3) (fun fO_11 =>
  bd3 (f_X4_readSign rB fB pl_8 fa_9) (fun r_13 pl_14 fa_15 =>
  bd3 (f_X4_readNumber (3 : Int32) (0 : Int32) (100 : Int32) rB fB pl_14 fa_15) (fun r_17 pl_18 fa_19 =>
  bd (f_X3_put (6 : Int32) 600 x1 (2 : Int32) (r_13 * r_17) rO fO_11) (fun fO_21 =>
  bd2 (f_X4_readByte (59 : Int32) rB fB pl_18 fa_19) (fun pl_23 fa_24 =>
  some (fO_21, pl_23, fa_24))))))))
  else
  (if r_1 = (103 : Int32) then
  (bd3 (f_X4_readGrant x1 rB fB rO fO_3 v_5 fa) (fun fO_27 pl_28 fa_29 =>
  bd2 (f_X4_readByte (59 : Int32) rB fB pl_28 fa_29) (fun pl_31 fa_32 =>
  some (fO_27, pl_31, fa_32))))
  else
  (if r_1 = (116 : Int32) then
  (bd3 (f_X4_readNumber (2 : Int32) (1 : Int32) (50 : Int32) rB fB v_5 fa) (fun r_35 pl_36 fa_37 =>
  bd (f_X3_put (6 : Int32) 600 x1 (1 : Int32) r_35 rO fO_3) (fun fO_39 =>
  bd2 (f_X4_readByte (59 : Int32) rB fB pl_36 fa_37) (fun pl_41 fa_42 =>
  some (fO_39, pl_41, fa_42)))))
  else
  (if r_1 = (118 : Int32) then
  (bd3 (f_X4_readNumber (3 : Int32) (0 : Int32) (999 : Int32) rB fB v_5 fa) (fun r_45 pl_46 fa_47 =>
  bd (f_X3_put (6 : Int32) 600 x1 (1 : Int32) r_45 rO fO_3) (fun fO_49 =>
  bd2 (f_X4_readByte (59 : Int32) rB fB pl_46 fa_47) (fun pl_51 fa_52 =>
  some (fO_49, pl_51, fa_52)))))
  else
  (bd (f_X4_fail (v_5 - (1 : Int32)) fa) (fun fa_54 =>
  bd2 (f_X4_readByte (59 : Int32) rB fB v_5 fa_54) (fun pl_56 fa_57 =>
  some (fO_3, pl_56, fa_57))))))))))
def f_X4_read_L19 (rB : Int32) (fB : (Nat → Int32)) : Nat → Int32 → Int32 → (Nat → Int32) → Int32 → Int32 →  Option (Int32 × (Nat → Int32) × Int32 × Int32)
  | 0, _, _, _, _, _ => none
  | k_ + 1, x1, rO, fO, pl, fa =>
    if (100 : Int32) ≤ x1 then
    (some (rO, fO, pl, fa))
    else
    (bd (f_X4_length rB) (fun r_2 =>
    if r_2 ≤ pl then
    (some (rO, fO, pl, fa))
    else
    (if fa = (-1 : Int32) then
    (bd2 (f_X3_addRow (100 : Int32) rO) (fun r_6 rO_7 =>
    bd3 (f_X4_readOrder r_6 rB fB rO_7 fO pl fa) (fun fO_9 pl_10 fa_11 =>
    nm (x1 + (1 : Int32)) (fun v_13 =>
    f_X4_read_L19 rB fB k_ v_13 rO_7 fO_9 pl_10 fa_11))))
    else
    (some (rO, fO, pl, fa)))))
def f_X4_read (rB : Int32) (fB : (Nat → Int32)) (rO : Int32) (fO : (Nat → Int32)) (pl : Int32) (fa : Int32) : Option (Int32 × Int32 × (Nat → Int32) × Int32 × Int32) :=
  bd (f_X3_dropAll rO) (fun rO_14 =>
  bd4 (f_X4_read_L19 rB fB FU (0 : Int32) rO_14 fO (0 : Int32) (-1 : Int32)) (fun rO_16 fO_17 pl_18 fa_19 =>
  some (fa_19, rO_16, fO_17, pl_18, fa_19)))
def f_X6_thrown (th : Int32) : Option (Int32) :=
  some th
def f_X6_in (x0 : Int64) (x2 : Int64) (x4 : Int64) : Option (Int32) :=
  if lg_cmp x0 x2 < (0 : Int32) then
  (some (0 : Int32))
  else
  (if (0 : Int32) < lg_cmp x0 x4 then
  (some (0 : Int32))
  else
  (some (1 : Int32)))
def f_X6_goes (x1 : Int32) (x2 : Int32) (x3 : Int32) (th : Int32) : Option (Int32 × Int32) :=
  if x1 = (0 : Int32) then
  (some ((0 : Int32), (1 : Int32)))
  else
  (if x2 = (0 : Int32) then
  (some ((0 : Int32), (2 : Int32)))
  else
  (if x3 = (0 : Int32) then
  (some ((0 : Int32), (3 : Int32)))
  else
  (some ((1 : Int32), (0 : Int32)))))
def f_X6_save_L51 (al : (Nat → Int32)) (sm : Int32) : Nat → Int32 → (Nat → Int32) →  Option ((Nat → Int32))
  | 0, _, _ => none
  | k_ + 1, x1, sv =>
    if (320 : Int32) ≤ x1 then
    (some sv)
    else
    (ix x1 320 (
    nm (al x1.toNatClampNeg) (fun v_3 =>
    ix (((320 : Int32) * sm) + x1) 1280 (
    nm (upd sv (((320 : Int32) * sm) + x1).toNatClampNeg v_3) (fun sv_5 =>
    nm (x1 + (1 : Int32)) (fun v_6 =>
    f_X6_save_L51 al sm k_ v_6 sv_5))))))
def f_X6_save_L10  : Nat → Int32 → (Nat → Int32) →  Option ((Nat → Int32))
  | 0, _, _ => none
  | k_ + 1, x1, sv =>
    if (960 : Int32) ≤ x1 then
    (some sv)
    else
    (ix (x1 + (320 : Int32)) 1280 (
    nm (sv (x1 + (320 : Int32)).toNatClampNeg) (fun v_9 =>
    ix x1 1280 (
    nm (upd sv x1.toNatClampNeg v_9) (fun sv_11 =>
    nm (x1 + (1 : Int32)) (fun v_12 =>
    f_X6_save_L10 k_ v_12 sv_11))))))
def f_X6_save (al : (Nat → Int32)) (sv : (Nat → Int32)) (sm : Int32) : Option ((Nat → Int32) × Int32) :=
  if sm = (4 : Int32) then
  (bd (f_X6_save_L10 FU (0 : Int32) sv) (fun sv_17 =>
  nm (sm - (1 : Int32)) (fun v_19 =>
  bd (f_X6_save_L51 al v_19 FU (0 : Int32) sv_17) (fun sv_20 =>
  nm (v_19 + (1 : Int32)) (fun v_22 =>
  some (sv_20, v_22))))))
  else
  (bd (f_X6_save_L51 al sm FU (0 : Int32) sv) (fun sv_14 =>
  nm (sm + (1 : Int32)) (fun v_16 =>
  some (sv_14, v_16))))
def f_X6_layAside_L2 (al : (Nat → Int32)) : Nat → Int32 → (Nat → Int32) →  Option ((Nat → Int32))
  | 0, _, _ => none
  | k_ + 1, x1, asd =>
    if (320 : Int32) ≤ x1 then
    (some asd)
    else
    (ix x1 320 (
    nm (al x1.toNatClampNeg) (fun v_3 =>
    ix x1 320 (
    nm (upd asd x1.toNatClampNeg v_3) (fun asd_5 =>
    nm (x1 + (1 : Int32)) (fun v_6 =>
    f_X6_layAside_L2 al k_ v_6 asd_5))))))
def f_X6_layAside (al : (Nat → Int32)) (asd : (Nat → Int32)) : Option ((Nat → Int32)) :=
  bd (f_X6_layAside_L2 al FU (0 : Int32) asd) (fun asd_7 =>
  some asd_7)
def f_X6_takeBack_L2 (asd : (Nat → Int32)) : Nat → Int32 → (Nat → Int32) →  Option ((Nat → Int32))
  | 0, _, _ => none
  | k_ + 1, x1, al =>
    if (320 : Int32) ≤ x1 then
    (some al)
    else
    (ix x1 320 (
    nm (asd x1.toNatClampNeg) (fun v_3 =>
    ix x1 320 (
    nm (upd al x1.toNatClampNeg v_3) (fun al_5 =>
    nm (x1 + (1 : Int32)) (fun v_6 =>
    f_X6_takeBack_L2 asd k_ v_6 al_5))))))
def f_X6_takeBack (al : (Nat → Int32)) (asd : (Nat → Int32)) : Option ((Nat → Int32)) :=
  bd (f_X6_takeBack_L2 asd FU (0 : Int32) al) (fun al_7 =>
  some al_7)
def f_X6_isPerson (x0 : Int32) : Option (Int32) :=
  bd (f_X6_in x0.toInt64 (0 : Int64) (9 : Int64)) (fun r_1 =>
  some r_1)
def f_X6_isThing (x1 : Int32) (al : (Nat → Int32)) : Option (Int32) :=
  ix (4 : Int32) 320 (
  bd (f_X6_in x1.toInt64 (0 : Int64) (((al (4 : Int32).toNatClampNeg).toInt64) - (1 : Int64))) (fun r_2 =>
  some r_2))
def f_X6_owner (x1 : Int32) (al : (Nat → Int32)) : Option (Int32) :=
  ix ((28 : Int32) + ((2 : Int32) * x1)) 320 (
  nm (al ((28 : Int32) + ((2 : Int32) * x1)).toNatClampNeg) (fun v_2 =>
  some v_2))
def f_X6_mask (x1 : Int32) (al : (Nat → Int32)) : Option (Int32) :=
  ix (((28 : Int32) + ((2 : Int32) * x1)) + (1 : Int32)) 320 (
  nm (al (((28 : Int32) + ((2 : Int32) * x1)) + (1 : Int32)).toNatClampNeg) (fun v_2 =>
  some v_2))
def f_X6_of (x1 : Int32) (x2 : Int32) (al : (Nat → Int32)) : Option (Int32) :=
  ix (((44 : Int32) + ((6 : Int32) * x1)) + x2) 320 (
  nm (al (((44 : Int32) + ((6 : Int32) * x1)) + x2).toNatClampNeg) (fun v_2 =>
  some v_2))
def f_X6_placeOf_L2 (x1 : Int32) (al : (Nat → Int32)) : Nat → Int32 →  Option (Int32)
  | 0, _ => none
  | k_ + 1, x2 =>
    ix (5 : Int32) 320 (
    if al (5 : Int32).toNatClampNeg ≤ x2 then
    (some (-1 : Int32))
    else
    (bd (f_X6_of x2 (0 : Int32) al) (fun r_3 =>
    if r_3 = x1 then
    (some x2)
    else
    (nm (x2 + (1 : Int32)) (fun v_6 =>
    f_X6_placeOf_L2 x1 al k_ v_6)))))
def f_X6_placeOf (x1 : Int32) (al : (Nat → Int32)) : Option (Int32) :=
  f_X6_placeOf_L2 x1 al FU (0 : Int32)
def f_X6_takeOut_L57  : Nat → Int32 → (Nat → Int32) →  Option ((Nat → Int32))
  | 0, _, _ => none
  | k_ + 1, x2, al =>
    if (6 : Int32) ≤ x2 then
    (some al)
    else
    (ix (5 : Int32) 320 (
    ix (((44 : Int32) + ((6 : Int32) * (al (5 : Int32).toNatClampNeg))) + x2) 320 (
    nm (upd al (((44 : Int32) + ((6 : Int32) * (al (5 : Int32).toNatClampNeg))) + x2).toNatClampNeg (0 : Int32)) (fun al_4 =>
    nm (x2 + (1 : Int32)) (fun v_5 =>
    f_X6_takeOut_L57 k_ v_5 al_4)))))
def f_X6_takeOut_L15  : Nat → Int32 → (Nat → Int32) →  Option ((Nat → Int32))
  | 0, _, _ => none
  | k_ + 1, x2, al =>
    ix (5 : Int32) 320 (
    if (6 : Int32) * (al (5 : Int32).toNatClampNeg) ≤ x2 then
    (some al)
    else
    (ix (((44 : Int32) + x2) + (6 : Int32)) 320 (
    nm (al (((44 : Int32) + x2) + (6 : Int32)).toNatClampNeg) (fun v_9 =>
    ix ((44 : Int32) + x2) 320 (
    nm (upd al ((44 : Int32) + x2).toNatClampNeg v_9) (fun al_11 =>
    nm (x2 + (1 : Int32)) (fun v_12 =>
    f_X6_takeOut_L15 k_ v_12 al_11)))))))
def f_X6_takeOut (x1 : Int32) (al : (Nat → Int32)) : Option ((Nat → Int32)) :=
  ix (5 : Int32) 320 (
  nm ((al (5 : Int32).toNatClampNeg) - (1 : Int32)) (fun v_14 =>
  ix (5 : Int32) 320 (
  nm (upd al (5 : Int32).toNatClampNeg v_14) (fun al_16 =>
  nm ((6 : Int32) * x1) (fun v_17 =>
  bd (f_X6_takeOut_L15 FU v_17 al_16) (fun al_18 =>
  bd (f_X6_takeOut_L57 FU (0 : Int32) al_18) (fun al_20 =>
  some al_20)))))))
def f_X6_log_L3  : Nat → Int32 → (Nat → Int32) →  Option ((Nat → Int32))
  | 0, _, _ => none
  | k_ + 1, x2, al =>
    if x2 < (3 : Int32) then
    (some al)
    else
    (ix (((284 : Int32) + x2) - (3 : Int32)) 320 (
    nm (al (((284 : Int32) + x2) - (3 : Int32)).toNatClampNeg) (fun v_3 =>
    ix ((284 : Int32) + x2) 320 (
    nm (upd al ((284 : Int32) + x2).toNatClampNeg v_3) (fun al_5 =>
    nm (x2 + (-1 : Int32)) (fun v_6 =>
    f_X6_log_L3 k_ v_6 al_5))))))
def f_X6_log (x1 : Int32) (al : (Nat → Int32)) : Option ((Nat → Int32)) :=
  bd (f_X6_log_L3 FU (35 : Int32) al) (fun al_7 =>
  bd (f_X6_of x1 (0 : Int32) al_7) (fun r_9 =>
  ix (284 : Int32) 320 (
  nm (upd al_7 (284 : Int32).toNatClampNeg r_9) (fun al_12 =>
  ix (0 : Int32) 320 (
  nm (al_12 (0 : Int32).toNatClampNeg) (fun v_14 =>
  ix (285 : Int32) 320 (
  nm (upd al_12 (285 : Int32).toNatClampNeg v_14) (fun al_16 =>
  bd (f_X6_of x1 (1 : Int32) al_16) (fun r_17 =>
  ix (286 : Int32) 320 (
  nm (upd al_16 (286 : Int32).toNatClampNeg r_17) (fun al_20 =>
  ix (6 : Int32) 320 (
  ix (6 : Int32) 320 (
  if (12 : Int32) ≤ al_20 (6 : Int32).toNatClampNeg then
  (nm ((al_20 (6 : Int32).toNatClampNeg) + (0 : Int32)) (fun v_24 =>
  ix (6 : Int32) 320 (
  nm (upd al_20 (6 : Int32).toNatClampNeg v_24) (fun al_26 =>
  some al_26))))
  else
  (nm ((al_20 (6 : Int32).toNatClampNeg) + (1 : Int32)) (fun v_27 =>
  ix (6 : Int32) 320 (
  nm (upd al_20 (6 : Int32).toNatClampNeg v_27) (fun al_29 =>
  some al_29)))))))))))))))))
def f_X6_die_L4  : Nat → Int32 → Int32 → (Nat → Int32) →  Option (Int32 × (Nat → Int32))
  | 0, _, _, _ => none
  | k_ + 1, x1, x2, al =>
    ix (5 : Int32) 320 (
    if al (5 : Int32).toNatClampNeg ≤ x2 then
    (some (x1, al))
    else
    (bd (f_X6_of x2 (1 : Int32) al) (fun r_3 =>
    ix ((8 : Int32) + r_3) 320 (
    bd (f_X6_of x2 (5 : Int32) al) (fun r_6 =>
    if r_6 ≤ al ((8 : Int32) + r_3).toNatClampNeg then
    (nm (x2 + (1 : Int32)) (fun v_9 =>
    f_X6_die_L4 k_ x1 v_9 al))
    else
    (bd (f_X6_log x2 al) (fun al_10 =>
    bd (f_X6_takeOut x2 al_10) (fun al_12 =>
    nm (x1 + (1 : Int32)) (fun v_14 =>
    f_X6_die_L4 k_ v_14 x2 al_12)))))))))
def f_X6_die (al : (Nat → Int32)) : Option (Int32 × (Nat → Int32)) :=
  bd2 (f_X6_die_L4 FU (0 : Int32) (0 : Int32) al) (fun y1_15 al_16 =>
  ix (2 : Int32) 320 (
  nm ((al_16 (2 : Int32).toNatClampNeg) + y1_15) (fun v_19 =>
  ix (2 : Int32) 320 (
  nm (upd al_16 (2 : Int32).toNatClampNeg v_19) (fun al_21 =>
  some (y1_15, al_21))))))
def f_X6_holds (x1 : Int32) (x2 : Int32) (ho : (Nat → Int32)) : Option (Int32) :=
  ix (((10 : Int32) * x2) + x1) 80 (
  nm (ho (((10 : Int32) * x2) + x1).toNatClampNeg) (fun v_2 =>
  some v_2))
def f_X6_passes (x1 : Int32) (al : (Nat → Int32)) (ho : (Nat → Int32)) : Option (Int32) :=
  bd (f_X6_of x1 (1 : Int32) al) (fun r_1 =>
  bd (f_X6_of x1 (3 : Int32) al) (fun r_3 =>
  bd (f_X6_holds r_1 r_3 ho) (fun r_5 =>
  if r_5 &&& (4 : Int32) = (0 : Int32) then
  (some (0 : Int32))
  else
  (bd (f_X6_of x1 (4 : Int32) al) (fun r_8 =>
  bd (f_X6_of x1 (3 : Int32) al) (fun r_10 =>
  bd (f_X6_mask r_10 al) (fun r_12 =>
  nm ((r_8 &&& r_5) &&& r_12) (fun v_14 =>
  some v_14))))))))
def f_X6_lay_L66 (al : (Nat → Int32)) : Nat → Int32 → Int32 → (Nat → Int32) →  Option (Int32 × (Nat → Int32))
  | 0, _, _, _ => none
  | k_ + 1, x1, x2, ho =>
    ix (5 : Int32) 320 (
    if al (5 : Int32).toNatClampNeg ≤ x2 then
    (some (x1, ho))
    else
    (bd (f_X6_of x2 (3 : Int32) al) (fun r_3 =>
    bd (f_X6_of x2 (2 : Int32) al) (fun r_5 =>
    nm (((10 : Int32) * r_3) + r_5) (fun v_7 =>
    ix v_7 80 (
    bd (f_X6_passes x2 al ho) (fun r_9 =>
    nm ((ho v_7.toNatClampNeg) ||| r_9) (fun v_11 =>
    if x1 = (0 : Int32) then
    (ix v_7 80 (
    if v_11 = ho v_7.toNatClampNeg then
    (ix v_7 80 (
    nm (upd ho v_7.toNatClampNeg v_11) (fun ho_19 =>
    nm (x2 + (1 : Int32)) (fun v_20 =>
    f_X6_lay_L66 al k_ (0 : Int32) v_20 ho_19))))
    else
    (ix v_7 80 (
    nm (upd ho v_7.toNatClampNeg v_11) (fun ho_22 =>
    nm (x2 + (1 : Int32)) (fun v_23 =>
    f_X6_lay_L66 al k_ (1 : Int32) v_23 ho_22))))))
    else
    (ix v_7 80 (
    nm (upd ho v_7.toNatClampNeg v_11) (fun ho_14 =>
    nm (x2 + (1 : Int32)) (fun v_15 =>
    f_X6_lay_L66 al k_ (1 : Int32) v_15 ho_14))))))))))))
def f_X6_lay_L58 (al : (Nat → Int32)) : Nat → Int32 → (Nat → Int32) →  Option ((Nat → Int32))
  | 0, _, _ => none
  | k_ + 1, x1, ho =>
    if x1 = (0 : Int32) then
    (some ho)
    else
    (bd2 (f_X6_lay_L66 al FU (0 : Int32) (0 : Int32) ho) (fun y1_25 ho_26 =>
    f_X6_lay_L58 al k_ y1_25 ho_26))
def f_X6_lay_L23 (al : (Nat → Int32)) : Nat → Int32 → (Nat → Int32) →  Option ((Nat → Int32))
  | 0, _, _ => none
  | k_ + 1, x1, ho =>
    ix (4 : Int32) 320 (
    if al (4 : Int32).toNatClampNeg ≤ x1 then
    (some ho)
    else
    (bd (f_X6_owner x1 al) (fun r_30 =>
    ix (((10 : Int32) * x1) + r_30) 80 (
    nm (upd ho (((10 : Int32) * x1) + r_30).toNatClampNeg (7 : Int32)) (fun ho_33 =>
    nm (x1 + (1 : Int32)) (fun v_34 =>
    f_X6_lay_L23 al k_ v_34 ho_33))))))
def f_X6_lay_L2  : Nat → Int32 → (Nat → Int32) →  Option ((Nat → Int32))
  | 0, _, _ => none
  | k_ + 1, x1, ho =>
    if (80 : Int32) ≤ x1 then
    (some ho)
    else
    (ix x1 80 (
    nm (upd ho x1.toNatClampNeg (0 : Int32)) (fun ho_37 =>
    nm (x1 + (1 : Int32)) (fun v_38 =>
    f_X6_lay_L2 k_ v_38 ho_37))))
def f_X6_lay (al : (Nat → Int32)) (ho : (Nat → Int32)) : Option ((Nat → Int32)) :=
  bd (f_X6_lay_L2 FU (0 : Int32) ho) (fun ho_39 =>
  bd (f_X6_lay_L23 al FU (0 : Int32) ho_39) (fun ho_41 =>
  bd (f_X6_lay_L58 al FU (1 : Int32) ho_41) (fun ho_43 =>
  some ho_43)))
def f_X6_whoHas_L5 (x1 : Int32) (x2 : Int32) (ho : (Nat → Int32)) : Nat → Int32 → Int32 →  Option (Int32)
  | 0, _, _ => none
  | k_ + 1, x3, x4 =>
    if (10 : Int32) ≤ x4 then
    (some x3)
    else
    (bd (f_X6_holds x4 x1 ho) (fun r_2 =>
    if r_2 &&& x2 = (0 : Int32) then
    (nm (x3 ||| (0 : Int32)) (fun v_5 =>
    nm (x4 + (1 : Int32)) (fun v_6 =>
    f_X6_whoHas_L5 x1 x2 ho k_ v_5 v_6)))
    else
    (nm (x3 ||| ((1 : Int32) <<< (x4 &&& 31))) (fun v_7 =>
    nm (x4 + (1 : Int32)) (fun v_8 =>
    f_X6_whoHas_L5 x1 x2 ho k_ v_7 v_8)))))
def f_X6_whoHas (x1 : Int32) (x2 : Int32) (ho : (Nat → Int32)) : Option (Int32) :=
  bd (f_X6_whoHas_L5 x1 x2 ho FU (0 : Int32) (0 : Int32)) (fun y3_9 =>
  some y3_9)
def f_X6_bits_L4  : Nat → Int32 → Int32 →  Option (Int32)
  | 0, _, _ => none
  | k_ + 1, x1, x2 =>
    if x2 ≤ (0 : Int32) then
    (some x1)
    else
    (nm (x1 + (x2 &&& (1 : Int32))) (fun v_2 =>
    nm (x2 >>> ((1 : Int32) &&& 31)) (fun v_3 =>
    f_X6_bits_L4 k_ v_2 v_3)))
def f_X6_bits (x0 : Int32) : Option (Int32) :=
  bd (f_X6_bits_L4 FU (0 : Int32) x0) (fun y1_4 =>
  some y1_4)
def f_X6_pairs_L8 (al : (Nat → Int32)) (ho : (Nat → Int32)) : Nat → Int32 → Int32 →  Option (Int32)
  | 0, _, _ => none
  | k_ + 1, x1, x2 =>
    ix (4 : Int32) 320 (
    if al (4 : Int32).toNatClampNeg ≤ x2 then
    (some x1)
    else
    (bd (f_X6_whoHas x2 (1 : Int32) ho) (fun r_3 =>
    bd (f_X6_bits r_3) (fun r_5 =>
    nm (x1 + r_5) (fun v_7 =>
    nm (x2 + (1 : Int32)) (fun v_8 =>
    f_X6_pairs_L8 al ho k_ v_7 v_8))))))
def f_X6_pairs (al : (Nat → Int32)) (ho : (Nat → Int32)) : Option (Int32 × (Nat → Int32)) :=
  bd (f_X6_lay al ho) (fun ho_9 =>
  bd (f_X6_pairs_L8 al ho_9 FU (0 : Int32) (0 : Int32)) (fun y1_11 =>
  some (y1_11, ho_9)))
def f_X6_addThing (x1 : Int32) (x2 : Int32) (al : (Nat → Int32)) (sv : (Nat → Int32)) (sm : Int32) (th : Int32) : Option (Int32 × (Nat → Int32) × (Nat → Int32) × Int32 × Int32) :=
  bd (f_X6_isPerson x1) (fun r_1 =>
  bd (f_X6_in x2.toInt64 (0 : Int64) (7 : Int64)) (fun r_3 =>
  ix (4 : Int32) 320 (
  if (8 : Int32) ≤ al (4 : Int32).toNatClampNeg then
  (bd2 (f_X6_goes r_1 r_3 (0 : Int32) th) (fun r_7 th_8 =>
  if r_7 = (0 : Int32) then
  (some ((0 : Int32), al, sv, sm, th_8))
  else
  (bd2 (f_X6_save al sv sm) (fun sv_11 sm_12 =>
  ix (4 : Int32) 320 (
  nm (al (4 : Int32).toNatClampNeg) (fun v_15 =>
  ix ((28 : Int32) + ((2 : Int32) * v_15)) 320 (
  nm (upd al ((28 : Int32) + ((2 : Int32) * v_15)).toNatClampNeg x1) (fun al_17 =>
  ix (((28 : Int32) + ((2 : Int32) * v_15)) + (1 : Int32)) 320 (
  nm (upd al_17 (((28 : Int32) + ((2 : Int32) * v_15)) + (1 : Int32)).toNatClampNeg x2) (fun al_19 =>
  ix (4 : Int32) 320 (
  nm ((al_19 (4 : Int32).toNatClampNeg) + (1 : Int32)) (fun v_21 =>
  ix (4 : Int32) 320 (
  nm (upd al_19 (4 : Int32).toNatClampNeg v_21) (fun al_23 =>
  some (v_15, al_23, sv_11, sm_12, th_8)))))))))))))))
  else
  (bd2 (f_X6_goes r_1 r_3 (1 : Int32) th) (fun r_24 th_25 =>
  if r_24 = (0 : Int32) then
  (some ((0 : Int32), al, sv, sm, th_25))
  else
  (bd2 (f_X6_save al sv sm) (fun sv_28 sm_29 =>
  ix (4 : Int32) 320 (
  nm (al (4 : Int32).toNatClampNeg) (fun v_32 =>
  ix ((28 : Int32) + ((2 : Int32) * v_32)) 320 (
  nm (upd al ((28 : Int32) + ((2 : Int32) * v_32)).toNatClampNeg x1) (fun al_34 =>
  ix (((28 : Int32) + ((2 : Int32) * v_32)) + (1 : Int32)) 320 (
  nm (upd al_34 (((28 : Int32) + ((2 : Int32) * v_32)) + (1 : Int32)).toNatClampNeg x2) (fun al_36 =>
  ix (4 : Int32) 320 (
  nm ((al_36 (4 : Int32).toNatClampNeg) + (1 : Int32)) (fun v_38 =>
  ix (4 : Int32) 320 (
  nm (upd al_36 (4 : Int32).toNatClampNeg v_38) (fun al_40 =>
  some (v_32, al_40, sv_28, sm_29, th_25))))))))))))))))))
def f_X6_exchange (x1 : Int32) (x2 : Int32) (al : (Nat → Int32)) (sv : (Nat → Int32)) (sm : Int32) : Option (Int32 × (Nat → Int32) × (Nat → Int32) × Int32) :=
  bd2 (f_X6_save al sv sm) (fun sv_1 sm_2 =>
  ix x1 320 (
  nm (al x1.toNatClampNeg) (fun v_5 =>
  ix x1 320 (
  nm (upd al x1.toNatClampNeg x2) (fun al_7 =>
  some (v_5, al_7, sv_1, sm_2))))))
def f_X6_setMask (x1 : Int32) (x2 : Int32) (al : (Nat → Int32)) (sv : (Nat → Int32)) (sm : Int32) (th : Int32) : Option (Int32 × (Nat → Int32) × (Nat → Int32) × Int32 × Int32) :=
  bd (f_X6_isThing x1 al) (fun r_1 =>
  bd (f_X6_in x2.toInt64 (0 : Int64) (7 : Int64)) (fun r_3 =>
  bd2 (f_X6_goes r_1 r_3 (1 : Int32) th) (fun r_5 th_6 =>
  if r_5 = (0 : Int32) then
  (some ((0 : Int32), al, sv, sm, th_6))
  else
  (bd4 (f_X6_exchange (((28 : Int32) + ((2 : Int32) * x1)) + (1 : Int32)) x2 al sv sm) (fun r_9 al_10 sv_11 sm_12 =>
  some (r_9, al_10, sv_11, sm_12, th_6))))))
def f_X6_setBase (x1 : Int32) (x2 : Int32) (al : (Nat → Int32)) (sv : (Nat → Int32)) (sm : Int32) (th : Int32) : Option (Int32 × (Nat → Int32) × (Nat → Int32) × Int32 × Int32) :=
  bd (f_X6_isPerson x1) (fun r_1 =>
  bd (f_X6_in x2.toInt64 (0 : Int64) (100 : Int64)) (fun r_3 =>
  bd2 (f_X6_goes r_1 r_3 (1 : Int32) th) (fun r_5 th_6 =>
  if r_5 = (0 : Int32) then
  (some ((0 : Int32), al, sv, sm, th_6))
  else
  (bd4 (f_X6_exchange ((18 : Int32) + x1) x2 al sv sm) (fun r_9 al_10 sv_11 sm_12 =>
  some (r_9, al_10, sv_11, sm_12, th_6))))))
def f_X6_give (x1 : Int32) (x2 : Int32) (al : (Nat → Int32)) (sv : (Nat → Int32)) (sm : Int32) (th : Int32) : Option (Int32 × (Nat → Int32) × (Nat → Int32) × Int32 × Int32) :=
  bd (f_X6_isThing x1 al) (fun r_1 =>
  if r_1 = (0 : Int32) then
  (bd2 (f_X6_goes (0 : Int32) (1 : Int32) (1 : Int32) th) (fun r_4 th_5 =>
  if r_4 = (0 : Int32) then
  (some ((0 : Int32), al, sv, sm, th_5))
  else
  (bd4 (f_X6_exchange ((28 : Int32) + ((2 : Int32) * x1)) x2 al sv sm) (fun r_8 al_9 sv_10 sm_11 =>
  some (r_8, al_9, sv_10, sm_11, th_5)))))
  else
  (bd (f_X6_isPerson x2) (fun r_13 =>
  if r_13 = (0 : Int32) then
  (bd2 (f_X6_goes (0 : Int32) (1 : Int32) (1 : Int32) th) (fun r_16 th_17 =>
  if r_16 = (0 : Int32) then
  (some ((0 : Int32), al, sv, sm, th_17))
  else
  (bd4 (f_X6_exchange ((28 : Int32) + ((2 : Int32) * x1)) x2 al sv sm) (fun r_20 al_21 sv_22 sm_23 =>
  some (r_20, al_21, sv_22, sm_23, th_17)))))
  else
  (bd2 (f_X6_goes (1 : Int32) (1 : Int32) (1 : Int32) th) (fun r_25 th_26 =>
  if r_25 = (0 : Int32) then
  (some ((0 : Int32), al, sv, sm, th_26))
  else
  (bd4 (f_X6_exchange ((28 : Int32) + ((2 : Int32) * x1)) x2 al sv sm) (fun r_29 al_30 sv_31 sm_32 =>
  some (r_29, al_30, sv_31, sm_32, th_26))))))))
def f_X6_arePersons (x1 : Int32) (x2 : Int32) (x3 : Int32) (al : (Nat → Int32)) : Option (Int32) :=
  bd (f_X6_isPerson x1) (fun r_1 =>
  if r_1 = (0 : Int32) then
  (some (0 : Int32))
  else
  (bd (f_X6_isPerson x2) (fun r_4 =>
  if r_4 = (0 : Int32) then
  (some (0 : Int32))
  else
  (bd (f_X6_isThing x3 al) (fun r_7 =>
  if r_7 = (0 : Int32) then
  (some (0 : Int32))
  else
  (some (1 : Int32)))))))
def f_X6_isGrant (x0 : Int32) (x1 : Int32) (x2 : Int32) (x3 : Int32) : Option (Int32) :=
  bd (f_X6_in x2.toInt64 (1 : Int64) (7 : Int64)) (fun r_1 =>
  if r_1 = (0 : Int32) then
  (some (0 : Int32))
  else
  (bd (f_X6_in x3.toInt64 (0 : Int64) (100 : Int64)) (fun r_4 =>
  if r_4 = (0 : Int32) then
  (some (0 : Int32))
  else
  (if x0 = x1 then
  (some (0 : Int32))
  else
  (some (1 : Int32))))))
def f_X6_mayGrant (x1 : Int32) (x2 : Int32) (x3 : Int32) (x4 : Int32) (al : (Nat → Int32)) (ho : (Nat → Int32)) : Option (Int32 × (Nat → Int32)) :=
  bd (f_X6_lay al ho) (fun ho_1 =>
  bd (f_X6_holds x1 x2 ho_1) (fun r_3 =>
  if r_3 &&& (x3 ||| (4 : Int32)) = x3 ||| (4 : Int32) then
  (ix ((8 : Int32) + x1) 320 (
  if al ((8 : Int32) + x1).toNatClampNeg < x4 then
  (some ((0 : Int32), ho_1))
  else
  (ix (5 : Int32) 320 (
  if (40 : Int32) ≤ al (5 : Int32).toNatClampNeg then
  (some ((0 : Int32), ho_1))
  else
  (some ((1 : Int32), ho_1))))))
  else
  (some ((0 : Int32), ho_1))))
def f_X6_lays (x1 : Int32) (x2 : Int32) (x3 : Int32) (x4 : Int32) (x5 : Int32) (al : (Nat → Int32)) : Option ((Nat → Int32)) :=
  ix (5 : Int32) 320 (
  nm ((44 : Int32) + ((6 : Int32) * (al (5 : Int32).toNatClampNeg))) (fun v_2 =>
  ix (1 : Int32) 320 (
  nm (al (1 : Int32).toNatClampNeg) (fun v_4 =>
  ix v_2 320 (
  nm (upd al v_2.toNatClampNeg v_4) (fun al_6 =>
  ix (v_2 + (1 : Int32)) 320 (
  nm (upd al_6 (v_2 + (1 : Int32)).toNatClampNeg x1) (fun al_8 =>
  ix (v_2 + (2 : Int32)) 320 (
  nm (upd al_8 (v_2 + (2 : Int32)).toNatClampNeg x2) (fun al_10 =>
  ix (v_2 + (3 : Int32)) 320 (
  nm (upd al_10 (v_2 + (3 : Int32)).toNatClampNeg x3) (fun al_12 =>
  ix (v_2 + (4 : Int32)) 320 (
  nm (upd al_12 (v_2 + (4 : Int32)).toNatClampNeg x4) (fun al_14 =>
  ix (v_2 + (5 : Int32)) 320 (
  nm (upd al_14 (v_2 + (5 : Int32)).toNatClampNeg x5) (fun al_16 =>
  ix (5 : Int32) 320 (
  nm ((al_16 (5 : Int32).toNatClampNeg) + (1 : Int32)) (fun v_18 =>
  ix (5 : Int32) 320 (
  nm (upd al_16 (5 : Int32).toNatClampNeg v_18) (fun al_20 =>
  ix (1 : Int32) 320 (
  nm ((al_20 (1 : Int32).toNatClampNeg) + (1 : Int32)) (fun v_22 =>
  ix (1 : Int32) 320 (
  nm (upd al_20 (1 : Int32).toNatClampNeg v_22) (fun al_24 =>
  some al_24))))))))))))))))))))))))
def f_X6_grant (x1 : Int32) (x2 : Int32) (x3 : Int32) (x4 : Int32) (x5 : Int32) (al : (Nat → Int32)) (sv : (Nat → Int32)) (sm : Int32) (th : Int32) (ho : (Nat → Int32)) : Option (Int32 × (Nat → Int32) × (Nat → Int32) × Int32 × Int32 × (Nat → Int32)) :=
  bd (f_X6_arePersons x1 x2 x3 al) (fun r_1 =>
  bd (f_X6_isGrant x1 x2 x4 x5) (fun r_3 =>
  if r_1 = (0 : Int32) then
  (bd2 (f_X6_goes r_1 r_3 (0 : Int32) th) (fun r_6 th_7 =>
  if r_6 = (0 : Int32) then
  (some ((0 : Int32), al, sv, sm, th_7, ho))
  else
  (bd2 (f_X6_save al sv sm) (fun sv_10 sm_11 =>
  bd (f_X6_lays x1 x2 x3 x4 x5 al) (fun al_13 =>
  ix (1 : Int32) 320 (
  nm ((al_13 (1 : Int32).toNatClampNeg) - (1 : Int32)) (fun v_16 =>
  some (v_16, al_13, sv_10, sm_11, th_7, ho))))))))
  else
  (if r_3 = (0 : Int32) then
  (bd2 (f_X6_goes r_1 r_3 (0 : Int32) th) (fun r_18 th_19 =>
  if r_18 = (0 : Int32) then
  (some ((0 : Int32), al, sv, sm, th_19, ho))
  else
  (bd2 (f_X6_save al sv sm) (fun sv_22 sm_23 =>
  bd (f_X6_lays x1 x2 x3 x4 x5 al) (fun al_25 =>
  ix (1 : Int32) 320 (
  nm ((al_25 (1 : Int32).toNatClampNeg) - (1 : Int32)) (fun v_28 =>
  some (v_28, al_25, sv_22, sm_23, th_19, ho))))))))
  else
  (bd2 (f_X6_mayGrant x1 x3 x4 x5 al ho) (fun r_29 ho_30 =>
  if r_29 = (0 : Int32) then
  (bd2 (f_X6_goes r_1 r_3 (0 : Int32) th) (fun r_33 th_34 =>
  if r_33 = (0 : Int32) then
  (some ((0 : Int32), al, sv, sm, th_34, ho_30))
  else
  (bd2 (f_X6_save al sv sm) (fun sv_37 sm_38 =>
  bd (f_X6_lays x1 x2 x3 x4 x5 al) (fun al_40 =>
  ix (1 : Int32) 320 (
  nm ((al_40 (1 : Int32).toNatClampNeg) - (1 : Int32)) (fun v_43 =>
  some (v_43, al_40, sv_37, sm_38, th_34, ho_30))))))))
  else
  (bd2 (f_X6_goes r_1 r_3 (1 : Int32) th) (fun r_44 th_45 =>
  if r_44 = (0 : Int32) then
  (some ((0 : Int32), al, sv, sm, th_45, ho_30))
  else
  (bd2 (f_X6_save al sv sm) (fun sv_48 sm_49 =>
  bd (f_X6_lays x1 x2 x3 x4 x5 al) (fun al_51 =>
  ix (1 : Int32) 320 (
  nm ((al_51 (1 : Int32).toNatClampNeg) - (1 : Int32)) (fun v_54 =>
  some (v_54, al_51, sv_48, sm_49, th_45, ho_30)))))))))))))
def f_X6_revokes (x1 : Int32) (al : (Nat → Int32)) (ho : (Nat → Int32)) : Option (Int32 × (Nat → Int32) × (Nat → Int32)) :=
  bd2 (f_X6_pairs al ho) (fun r_1 ho_2 =>
  bd (f_X6_takeOut x1 al) (fun al_4 =>
  ix (3 : Int32) 320 (
  nm ((al_4 (3 : Int32).toNatClampNeg) + (1 : Int32)) (fun v_7 =>
  ix (3 : Int32) 320 (
  nm (upd al_4 (3 : Int32).toNatClampNeg v_7) (fun al_9 =>
  bd2 (f_X6_pairs al_9 ho_2) (fun r_10 ho_11 =>
  nm (r_1 - r_10) (fun v_13 =>
  some (v_13, al_9, ho_11)))))))))
def f_X6_revoke (x1 : Int32) (al : (Nat → Int32)) (sv : (Nat → Int32)) (sm : Int32) (th : Int32) (ho : (Nat → Int32)) : Option (Int32 × (Nat → Int32) × (Nat → Int32) × Int32 × Int32 × (Nat → Int32)) :=
  bd (f_X6_placeOf x1 al) (fun r_1 =>
  if r_1 = (-1 : Int32) then
  (bd2 (f_X6_goes (0 : Int32) (1 : Int32) (1 : Int32) th) (fun r_4 th_5 =>
  if r_4 = (0 : Int32) then
  (some ((0 : Int32), al, sv, sm, th_5, ho))
  else
  (bd2 (f_X6_save al sv sm) (fun sv_8 sm_9 =>
  bd (f_X6_placeOf x1 al) (fun r_11 =>
  bd3 (f_X6_revokes r_11 al ho) (fun r_13 al_14 ho_15 =>
  some (r_13, al_14, sv_8, sm_9, th_5, ho_15)))))))
  else
  (bd2 (f_X6_goes (1 : Int32) (1 : Int32) (1 : Int32) th) (fun r_17 th_18 =>
  if r_17 = (0 : Int32) then
  (some ((0 : Int32), al, sv, sm, th_18, ho))
  else
  (bd2 (f_X6_save al sv sm) (fun sv_21 sm_22 =>
  bd (f_X6_placeOf x1 al) (fun r_24 =>
  bd3 (f_X6_revokes r_24 al ho) (fun r_26 al_27 ho_28 =>
  some (r_26, al_27, sv_21, sm_22, th_18, ho_28))))))))
def f_X6_cheers (x1 : Int32) (x2 : Int32) (al : (Nat → Int32)) : Option ((Nat → Int32)) :=
  ix ((8 : Int32) + x1) 320 (
  nm ((al ((8 : Int32) + x1).toNatClampNeg) + x2) (fun v_2 =>
  if (0 : Int32) ≤ v_2 then
  (if v_2 ≤ (100 : Int32) then
  (ix ((8 : Int32) + x1) 320 (
  nm (upd al ((8 : Int32) + x1).toNatClampNeg v_2) (fun al_6 =>
  bd2 (f_X6_die al_6) (fun r_7 al_8 =>
  some al_8))))
  else
  (ix ((8 : Int32) + x1) 320 (
  nm (upd al ((8 : Int32) + x1).toNatClampNeg (100 : Int32)) (fun al_11 =>
  bd2 (f_X6_die al_11) (fun r_12 al_13 =>
  some al_13)))))
  else
  (ix ((8 : Int32) + x1) 320 (
  nm (upd al ((8 : Int32) + x1).toNatClampNeg (0 : Int32)) (fun al_16 =>
  bd2 (f_X6_die al_16) (fun r_17 al_18 =>
  some al_18))))))
def f_X6_cheer (x1 : Int32) (x2 : Int32) (al : (Nat → Int32)) (sv : (Nat → Int32)) (sm : Int32) (th : Int32) : Option (Int32 × (Nat → Int32) × (Nat → Int32) × Int32 × Int32) :=
  bd (f_X6_isPerson x1) (fun r_1 =>
  bd (f_X6_in x2.toInt64 (-100 : Int64) (100 : Int64)) (fun r_3 =>
  bd2 (f_X6_goes r_1 r_3 (1 : Int32) th) (fun r_5 th_6 =>
  if r_5 = (0 : Int32) then
  (some ((0 : Int32), al, sv, sm, th_6))
  else
  (bd2 (f_X6_save al sv sm) (fun sv_9 sm_10 =>
  bd (f_X6_cheers x1 x2 al) (fun al_12 =>
  ix ((8 : Int32) + x1) 320 (
  nm (al_12 ((8 : Int32) + x1).toNatClampNeg) (fun v_15 =>
  some (v_15, al_12, sv_9, sm_10, th_6)))))))))
def f_X6_tick_L12  : Nat → Int32 → (Nat → Int32) →  Option ((Nat → Int32))
  | 0, _, _ => none
  | k_ + 1, x1, al =>
    if (10 : Int32) ≤ x1 then
    (some al)
    else
    (ix ((18 : Int32) + x1) 320 (
    ix ((8 : Int32) + x1) 320 (
    nm ((al ((18 : Int32) + x1).toNatClampNeg) - (al ((8 : Int32) + x1).toNatClampNeg)) (fun v_4 =>
    nm ((8 : Int32) + x1) (fun v_5 =>
    ix v_5 320 (
    if v_4 ≤ (0 : Int32) then
    (if (0 : Int32) ≤ v_4 then
    (nm ((al v_5.toNatClampNeg) + (0 : Int32)) (fun v_9 =>
    ix v_5 320 (
    nm (upd al v_5.toNatClampNeg v_9) (fun al_11 =>
    nm (x1 + (1 : Int32)) (fun v_12 =>
    f_X6_tick_L12 k_ v_12 al_11)))))
    else
    (nm ((al v_5.toNatClampNeg) + (-1 : Int32)) (fun v_13 =>
    ix v_5 320 (
    nm (upd al v_5.toNatClampNeg v_13) (fun al_15 =>
    nm (x1 + (1 : Int32)) (fun v_16 =>
    f_X6_tick_L12 k_ v_16 al_15))))))
    else
    (nm ((al v_5.toNatClampNeg) + (1 : Int32)) (fun v_17 =>
    ix v_5 320 (
    nm (upd al v_5.toNatClampNeg v_17) (fun al_19 =>
    nm (x1 + (1 : Int32)) (fun v_20 =>
    f_X6_tick_L12 k_ v_20 al_19)))))))))))
def f_X6_tick (al : (Nat → Int32)) : Option (Int32 × (Nat → Int32)) :=
  ix (0 : Int32) 320 (
  nm ((al (0 : Int32).toNatClampNeg) + (1 : Int32)) (fun v_22 =>
  ix (0 : Int32) 320 (
  nm (upd al (0 : Int32).toNatClampNeg v_22) (fun al_24 =>
  bd (f_X6_tick_L12 FU (0 : Int32) al_24) (fun al_25 =>
  bd2 (f_X6_die al_25) (fun r_27 al_28 =>
  some (r_27, al_28)))))))
def f_X6_ticks_L4 (x1 : Int32) : Nat → Int32 → Int32 → (Nat → Int32) →  Option (Int32 × (Nat → Int32))
  | 0, _, _, _ => none
  | k_ + 1, x2, x3, al =>
    if x1 ≤ x3 then
    (some (x2, al))
    else
    (bd2 (f_X6_tick al) (fun r_2 al_3 =>
    nm (x2 + r_2) (fun v_5 =>
    nm (x3 + (1 : Int32)) (fun v_6 =>
    f_X6_ticks_L4 x1 k_ v_5 v_6 al_3))))
def f_X6_ticks (x1 : Int32) (al : (Nat → Int32)) : Option (Int32 × (Nat → Int32)) :=
  bd2 (f_X6_ticks_L4 x1 FU (0 : Int32) (0 : Int32) al) (fun y2_7 al_8 =>
  some (y2_7, al_8))
def f_X6_mayPass (x1 : Int32) (al : (Nat → Int32)) : Option (Int32) :=
  ix (0 : Int32) 320 (
  if (100000 : Int32) < (al (0 : Int32).toNatClampNeg) + x1 then
  (some (0 : Int32))
  else
  (some (1 : Int32)))
def f_X6_pass (x1 : Int32) (al : (Nat → Int32)) (sv : (Nat → Int32)) (sm : Int32) (th : Int32) : Option (Int32 × (Nat → Int32) × (Nat → Int32) × Int32 × Int32) :=
  bd (f_X6_in x1.toInt64 (1 : Int64) (100 : Int64)) (fun r_1 =>
  if r_1 = (0 : Int32) then
  (bd2 (f_X6_goes r_1 (0 : Int32) (1 : Int32) th) (fun r_4 th_5 =>
  if r_4 = (0 : Int32) then
  (some ((0 : Int32), al, sv, sm, th_5))
  else
  (bd2 (f_X6_save al sv sm) (fun sv_8 sm_9 =>
  bd2 (f_X6_ticks x1 al) (fun r_11 al_12 =>
  some (r_11, al_12, sv_8, sm_9, th_5))))))
  else
  (bd (f_X6_mayPass x1 al) (fun r_14 =>
  if r_14 = (0 : Int32) then
  (bd2 (f_X6_goes r_1 (0 : Int32) (1 : Int32) th) (fun r_17 th_18 =>
  if r_17 = (0 : Int32) then
  (some ((0 : Int32), al, sv, sm, th_18))
  else
  (bd2 (f_X6_save al sv sm) (fun sv_21 sm_22 =>
  bd2 (f_X6_ticks x1 al) (fun r_24 al_25 =>
  some (r_24, al_25, sv_21, sm_22, th_18))))))
  else
  (bd2 (f_X6_goes r_1 (1 : Int32) (1 : Int32) th) (fun r_27 th_28 =>
  if r_27 = (0 : Int32) then
  (some ((0 : Int32), al, sv, sm, th_28))
  else
  (bd2 (f_X6_save al sv sm) (fun sv_31 sm_32 =>
  bd2 (f_X6_ticks x1 al) (fun r_34 al_35 =>
  some (r_34, al_35, sv_31, sm_32, th_28)))))))))
def f_X6_held (x1 : Int32) (x2 : Int32) (al : (Nat → Int32)) (th : Int32) (ho : (Nat → Int32)) : Option (Int32 × Int32 × (Nat → Int32)) :=
  bd (f_X6_isPerson x1) (fun r_1 =>
  if r_1 = (0 : Int32) then
  (bd2 (f_X6_goes (0 : Int32) (1 : Int32) (1 : Int32) th) (fun r_4 th_5 =>
  if r_4 = (0 : Int32) then
  (some ((0 : Int32), th_5, ho))
  else
  (bd (f_X6_lay al ho) (fun ho_8 =>
  bd (f_X6_holds x1 x2 ho_8) (fun r_10 =>
  some (r_10, th_5, ho_8))))))
  else
  (bd (f_X6_isThing x2 al) (fun r_12 =>
  if r_12 = (0 : Int32) then
  (bd2 (f_X6_goes (0 : Int32) (1 : Int32) (1 : Int32) th) (fun r_15 th_16 =>
  if r_15 = (0 : Int32) then
  (some ((0 : Int32), th_16, ho))
  else
  (bd (f_X6_lay al ho) (fun ho_19 =>
  bd (f_X6_holds x1 x2 ho_19) (fun r_21 =>
  some (r_21, th_16, ho_19))))))
  else
  (bd2 (f_X6_goes (1 : Int32) (1 : Int32) (1 : Int32) th) (fun r_23 th_24 =>
  if r_23 = (0 : Int32) then
  (some ((0 : Int32), th_24, ho))
  else
  (bd (f_X6_lay al ho) (fun ho_27 =>
  bd (f_X6_holds x1 x2 ho_27) (fun r_29 =>
  some (r_29, th_24, ho_27)))))))))
def f_X6_grantsBy_L5 (x1 : Int32) (x2 : Int32) (al : (Nat → Int32)) : Nat → Int32 → Int32 →  Option (Int32)
  | 0, _, _ => none
  | k_ + 1, x3, x4 =>
    ix (5 : Int32) 320 (
    if al (5 : Int32).toNatClampNeg ≤ x4 then
    (some x3)
    else
    (bd (f_X6_of x4 x2 al) (fun r_3 =>
    if r_3 = x1 then
    (nm (x3 + (1 : Int32)) (fun v_8 =>
    nm (x4 + (1 : Int32)) (fun v_9 =>
    f_X6_grantsBy_L5 x1 x2 al k_ v_8 v_9)))
    else
    (nm (x3 + (0 : Int32)) (fun v_6 =>
    nm (x4 + (1 : Int32)) (fun v_7 =>
    f_X6_grantsBy_L5 x1 x2 al k_ v_6 v_7))))))
def f_X6_grantsBy (x1 : Int32) (x2 : Int32) (al : (Nat → Int32)) : Option (Int32) :=
  bd (f_X6_grantsBy_L5 x1 x2 al FU (0 : Int32) (0 : Int32)) (fun y3_10 =>
  some y3_10)
def f_X6_personValue_L8 (x1 : Int32) (al : (Nat → Int32)) (ho : (Nat → Int32)) : Nat → Int32 → Int32 → Int32 →  Option (Int32 × Int32)
  | 0, _, _, _ => none
  | k_ + 1, x3, x4, x5 =>
    ix (4 : Int32) 320 (
    if al (4 : Int32).toNatClampNeg ≤ x5 then
    (some (x3, x4))
    else
    (bd (f_X6_owner x5 al) (fun r_3 =>
    if r_3 = x1 then
    (nm (x3 + (1 : Int32)) (fun v_11 =>
    bd (f_X6_holds x1 x5 ho) (fun r_12 =>
    nm (x4 ||| ((r_12 &&& (1 : Int32)) <<< (x5 &&& 31))) (fun v_14 =>
    nm (x5 + (1 : Int32)) (fun v_15 =>
    f_X6_personValue_L8 x1 al ho k_ v_11 v_14 v_15)))))
    else
    (nm (x3 + (0 : Int32)) (fun v_6 =>
    bd (f_X6_holds x1 x5 ho) (fun r_7 =>
    nm (x4 ||| ((r_7 &&& (1 : Int32)) <<< (x5 &&& 31))) (fun v_9 =>
    nm (x5 + (1 : Int32)) (fun v_10 =>
    f_X6_personValue_L8 x1 al ho k_ v_6 v_9 v_10))))))))
def f_X6_personValue (x1 : Int32) (x2 : Int32) (al : (Nat → Int32)) (ho : (Nat → Int32)) : Option (Int32) :=
  bd2 (f_X6_personValue_L8 x1 al ho FU (0 : Int32) (0 : Int32) (0 : Int32)) (fun y3_16 y4_17 =>
  if x2 = (0 : Int32) then
  (ix ((8 : Int32) + x1) 320 (
  nm (al ((8 : Int32) + x1).toNatClampNeg) (fun v_21 =>
  some v_21)))
  else
  (if x2 = (1 : Int32) then
  (ix ((18 : Int32) + x1) 320 (
  nm (al ((18 : Int32) + x1).toNatClampNeg) (fun v_24 =>
  some v_24)))
  else
  (if x2 = (2 : Int32) then
  (some y3_16)
  else
  (if x2 = (3 : Int32) then
  (bd (f_X6_bits y4_17) (fun r_27 =>
  some r_27))
  else
  (if x2 = (4 : Int32) then
  (bd (f_X6_grantsBy x1 (1 : Int32) al) (fun r_30 =>
  some r_30))
  else
  (if x2 = (5 : Int32) then
  (bd (f_X6_grantsBy x1 (2 : Int32) al) (fun r_33 =>
  some r_33))
  else
  (some y4_17)))))))
def f_X6_person (x1 : Int32) (x2 : Int32) (al : (Nat → Int32)) (th : Int32) (ho : (Nat → Int32)) : Option (Int32 × Int32 × (Nat → Int32)) :=
  bd (f_X6_isPerson x1) (fun r_1 =>
  bd (f_X6_in x2.toInt64 (0 : Int64) (6 : Int64)) (fun r_3 =>
  bd2 (f_X6_goes r_1 r_3 (1 : Int32) th) (fun r_5 th_6 =>
  if r_5 = (0 : Int32) then
  (some ((0 : Int32), th_6, ho))
  else
  (bd (f_X6_lay al ho) (fun ho_9 =>
  bd (f_X6_personValue x1 x2 al ho_9) (fun r_11 =>
  some (r_11, th_6, ho_9)))))))
def f_X6_thingValue (x1 : Int32) (x2 : Int32) (al : (Nat → Int32)) (ho : (Nat → Int32)) : Option (Int32) :=
  if (2 : Int32) ≤ x2 then
  (if x2 = (2 : Int32) then
  (bd (f_X6_grantsBy x1 (3 : Int32) al) (fun r_5 =>
  some r_5))
  else
  (bd (f_X6_whoHas x1 ((1 : Int32) <<< ((x2 - (3 : Int32)) &&& 31)) ho) (fun r_3 =>
  some r_3)))
  else
  (ix (((28 : Int32) + ((2 : Int32) * x1)) + x2) 320 (
  nm (al (((28 : Int32) + ((2 : Int32) * x1)) + x2).toNatClampNeg) (fun v_8 =>
  some v_8)))
def f_X6_thing (x1 : Int32) (x2 : Int32) (al : (Nat → Int32)) (th : Int32) (ho : (Nat → Int32)) : Option (Int32 × Int32 × (Nat → Int32)) :=
  bd (f_X6_isThing x1 al) (fun r_1 =>
  bd (f_X6_in x2.toInt64 (0 : Int64) (5 : Int64)) (fun r_3 =>
  bd2 (f_X6_goes r_1 r_3 (1 : Int32) th) (fun r_5 th_6 =>
  if r_5 = (0 : Int32) then
  (some ((0 : Int32), th_6, ho))
  else
  (bd (f_X6_lay al ho) (fun ho_9 =>
  bd (f_X6_thingValue x1 x2 al ho_9) (fun r_11 =>
  some (r_11, th_6, ho_9)))))))
def f_X6_grantValue (x1 : Int32) (x2 : Int32) (al : (Nat → Int32)) (ho : (Nat → Int32)) : Option (Int32) :=
  if (5 : Int32) ≤ x2 then
  (bd (f_X6_passes x1 al ho) (fun r_2 =>
  some r_2))
  else
  (bd (f_X6_of x1 (x2 + (1 : Int32)) al) (fun r_4 =>
  some r_4))
def f_X6_grantOf (x1 : Int32) (x2 : Int32) (al : (Nat → Int32)) (th : Int32) (ho : (Nat → Int32)) : Option (Int32 × Int32 × (Nat → Int32)) :=
  bd (f_X6_placeOf x1 al) (fun r_1 =>
  if r_1 = (-1 : Int32) then
  (bd (f_X6_in x2.toInt64 (0 : Int64) (5 : Int64)) (fun r_4 =>
  bd2 (f_X6_goes (0 : Int32) r_4 (1 : Int32) th) (fun r_6 th_7 =>
  if r_6 = (0 : Int32) then
  (some ((0 : Int32), th_7, ho))
  else
  (bd (f_X6_lay al ho) (fun ho_10 =>
  bd (f_X6_grantValue r_1 x2 al ho_10) (fun r_12 =>
  some (r_12, th_7, ho_10)))))))
  else
  (bd (f_X6_in x2.toInt64 (0 : Int64) (5 : Int64)) (fun r_14 =>
  bd2 (f_X6_goes (1 : Int32) r_14 (1 : Int32) th) (fun r_16 th_17 =>
  if r_16 = (0 : Int32) then
  (some ((0 : Int32), th_17, ho))
  else
  (bd (f_X6_lay al ho) (fun ho_20 =>
  bd (f_X6_grantValue r_1 x2 al ho_20) (fun r_22 =>
  some (r_22, th_17, ho_20))))))))
def f_X6_isLink (x1 : Int32) (x2 : Int32) (al : (Nat → Int32)) (ho : (Nat → Int32)) : Option (Int32) :=
  bd (f_X6_of x1 (3 : Int32) al) (fun r_1 =>
  if r_1 = x2 then
  (bd (f_X6_of x1 (4 : Int32) al) (fun r_4 =>
  if r_4 &&& (1 : Int32) = (0 : Int32) then
  (some (0 : Int32))
  else
  (bd (f_X6_of x1 (1 : Int32) al) (fun r_7 =>
  bd (f_X6_holds r_7 x2 ho) (fun r_9 =>
  if r_9 &&& (5 : Int32) = (5 : Int32) then
  (bd (f_X6_mask x2 al) (fun r_12 =>
  if r_12 &&& (1 : Int32) = (0 : Int32) then
  (some (0 : Int32))
  else
  (some (1 : Int32))))
  else
  (some (0 : Int32)))))))
  else
  (some (0 : Int32)))
def f_X6_measure_L44 (x1 : Int32) (x2 : Int32) (al : (Nat → Int32)) (ho : (Nat → Int32)) : Nat → Int32 → (Nat → Int32) →  Option ((Nat → Int32))
  | 0, _, _ => none
  | k_ + 1, x3, fr =>
    ix (5 : Int32) 320 (
    if al (5 : Int32).toNatClampNeg ≤ x3 then
    (some fr)
    else
    (bd (f_X6_isLink x3 x1 al ho) (fun r_3 =>
    if r_3 = (0 : Int32) then
    (bd (f_X6_of x3 (2 : Int32) al) (fun r_6 =>
    bd (f_X6_of x3 (2 : Int32) al) (fun r_9 =>
    ix r_9 10 (
    nm (fr r_9.toNatClampNeg) (fun v_12 =>
    ix r_6 10 (
    nm (upd fr r_6.toNatClampNeg v_12) (fun fr_14 =>
    nm (x3 + (1 : Int32)) (fun v_15 =>
    f_X6_measure_L44 x1 x2 al ho k_ v_15 fr_14))))))))
    else
    (bd (f_X6_of x3 (1 : Int32) al) (fun r_16 =>
    ix r_16 10 (
    if fr r_16.toNatClampNeg = x2 then
    (bd (f_X6_of x3 (2 : Int32) al) (fun r_30 =>
    ix r_30 10 (
    if fr r_30.toNatClampNeg = (-1 : Int32) then
    (bd (f_X6_of x3 (2 : Int32) al) (fun r_44 =>
    nm (x2 + (1 : Int32)) (fun v_47 =>
    ix r_44 10 (
    nm (upd fr r_44.toNatClampNeg v_47) (fun fr_49 =>
    nm (x3 + (1 : Int32)) (fun v_50 =>
    f_X6_measure_L44 x1 x2 al ho k_ v_50 fr_49))))))
    else
    (bd (f_X6_of x3 (2 : Int32) al) (fun r_34 =>
    bd (f_X6_of x3 (2 : Int32) al) (fun r_37 =>
    ix r_37 10 (
    nm (fr r_37.toNatClampNeg) (fun v_40 =>
    ix r_34 10 (
    nm (upd fr r_34.toNatClampNeg v_40) (fun fr_42 =>
    nm (x3 + (1 : Int32)) (fun v_43 =>
    f_X6_measure_L44 x1 x2 al ho k_ v_43 fr_42)))))))))))
    else
    (bd (f_X6_of x3 (2 : Int32) al) (fun r_20 =>
    bd (f_X6_of x3 (2 : Int32) al) (fun r_23 =>
    ix r_23 10 (
    nm (fr r_23.toNatClampNeg) (fun v_26 =>
    ix r_20 10 (
    nm (upd fr r_20.toNatClampNeg v_26) (fun fr_28 =>
    nm (x3 + (1 : Int32)) (fun v_29 =>
    f_X6_measure_L44 x1 x2 al ho k_ v_29 fr_28))))))))))))))
def f_X6_measure_L36 (x1 : Int32) (al : (Nat → Int32)) (ho : (Nat → Int32)) : Nat → Int32 → (Nat → Int32) →  Option ((Nat → Int32))
  | 0, _, _ => none
  | k_ + 1, x2, fr =>
    if (10 : Int32) ≤ x2 then
    (some fr)
    else
    (bd (f_X6_measure_L44 x1 x2 al ho FU (0 : Int32) fr) (fun fr_52 =>
    nm (x2 + (1 : Int32)) (fun v_54 =>
    f_X6_measure_L36 x1 al ho k_ v_54 fr_52)))
def f_X6_measure_L2 (x1 : Int32) (al : (Nat → Int32)) : Nat → Int32 → (Nat → Int32) →  Option ((Nat → Int32))
  | 0, _, _ => none
  | k_ + 1, x2, fr =>
    if (10 : Int32) ≤ x2 then
    (some fr)
    else
    (bd (f_X6_owner x1 al) (fun r_56 =>
    if x2 = r_56 then
    (ix x2 10 (
    nm (upd fr x2.toNatClampNeg (0 : Int32)) (fun fr_63 =>
    nm (x2 + (1 : Int32)) (fun v_64 =>
    f_X6_measure_L2 x1 al k_ v_64 fr_63))))
    else
    (ix x2 10 (
    nm (upd fr x2.toNatClampNeg (-1 : Int32)) (fun fr_60 =>
    nm (x2 + (1 : Int32)) (fun v_61 =>
    f_X6_measure_L2 x1 al k_ v_61 fr_60))))))
def f_X6_measure (x1 : Int32) (al : (Nat → Int32)) (ho : (Nat → Int32)) (fr : (Nat → Int32)) : Option ((Nat → Int32)) :=
  bd (f_X6_measure_L2 x1 al FU (0 : Int32) fr) (fun fr_65 =>
  bd (f_X6_measure_L36 x1 al ho FU (0 : Int32) fr_65) (fun fr_67 =>
  some fr_67))
def f_X6_chainOf (x1 : Int32) (x2 : Int32) (al : (Nat → Int32)) (ho : (Nat → Int32)) (fr : (Nat → Int32)) : Option (Int32 × (Nat → Int32)) :=
  bd (f_X6_measure x2 al ho fr) (fun fr_1 =>
  ix x1 10 (
  nm (fr_1 x1.toNatClampNeg) (fun v_4 =>
  some (v_4, fr_1))))
def f_X6_chain (x1 : Int32) (x2 : Int32) (al : (Nat → Int32)) (th : Int32) (ho : (Nat → Int32)) (fr : (Nat → Int32)) : Option (Int32 × Int32 × (Nat → Int32) × (Nat → Int32)) :=
  bd (f_X6_isPerson x1) (fun r_1 =>
  if r_1 = (0 : Int32) then
  (bd2 (f_X6_goes (0 : Int32) (1 : Int32) (1 : Int32) th) (fun r_4 th_5 =>
  if r_4 = (0 : Int32) then
  (some ((0 : Int32), th_5, ho, fr))
  else
  (bd (f_X6_lay al ho) (fun ho_8 =>
  bd2 (f_X6_chainOf x1 x2 al ho_8 fr) (fun r_10 fr_11 =>
  some (r_10, th_5, ho_8, fr_11))))))
  else
  (bd (f_X6_isThing x2 al) (fun r_13 =>
  if r_13 = (0 : Int32) then
  (bd2 (f_X6_goes (0 : Int32) (1 : Int32) (1 : Int32) th) (fun r_16 th_17 =>
  if r_16 = (0 : Int32) then
  (some ((0 : Int32), th_17, ho, fr))
  else
  (bd (f_X6_lay al ho) (fun ho_20 =>
  bd2 (f_X6_chainOf x1 x2 al ho_20 fr) (fun r_22 fr_23 =>
  some (r_22, th_17, ho_20, fr_23))))))
  else
  (bd2 (f_X6_goes (1 : Int32) (1 : Int32) (1 : Int32) th) (fun r_25 th_26 =>
  if r_25 = (0 : Int32) then
  (some ((0 : Int32), th_26, ho, fr))
  else
  (bd (f_X6_lay al ho) (fun ho_29 =>
  bd2 (f_X6_chainOf x1 x2 al ho_29 fr) (fun r_31 fr_32 =>
  some (r_31, th_26, ho_29, fr_32)))))))))
def f_X6_lastLink_L2 (x1 : Int32) (x2 : Int32) (al : (Nat → Int32)) (ho : (Nat → Int32)) (fr : (Nat → Int32)) : Nat → Int32 →  Option (Int32)
  | 0, _ => none
  | k_ + 1, x3 =>
    ix (5 : Int32) 320 (
    if al (5 : Int32).toNatClampNeg ≤ x3 then
    (some (-1 : Int32))
    else
    (bd (f_X6_isLink x3 x2 al ho) (fun r_3 =>
    if r_3 = (0 : Int32) then
    (nm (x3 + (1 : Int32)) (fun v_6 =>
    f_X6_lastLink_L2 x1 x2 al ho fr k_ v_6))
    else
    (bd (f_X6_of x3 (2 : Int32) al) (fun r_7 =>
    if r_7 = x1 then
    (bd (f_X6_of x3 (1 : Int32) al) (fun r_11 =>
    ix r_11 10 (
    ix x1 10 (
    if fr r_11.toNatClampNeg = (fr x1.toNatClampNeg) - (1 : Int32) then
    (some x3)
    else
    (nm (x3 + (1 : Int32)) (fun v_16 =>
    f_X6_lastLink_L2 x1 x2 al ho fr k_ v_16))))))
    else
    (nm (x3 + (1 : Int32)) (fun v_10 =>
    f_X6_lastLink_L2 x1 x2 al ho fr k_ v_10)))))))
def f_X6_lastLink (x1 : Int32) (x2 : Int32) (al : (Nat → Int32)) (ho : (Nat → Int32)) (fr : (Nat → Int32)) : Option (Int32) :=
  f_X6_lastLink_L2 x1 x2 al ho fr FU (0 : Int32)
def f_X6_link_L97 (x2 : Int32) (al : (Nat → Int32)) (ho : (Nat → Int32)) (fr : (Nat → Int32)) : Nat → Int32 → Int32 →  Option (Int32)
  | 0, _, _ => none
  | k_ + 1, x7, x8 =>
    if x8 ≤ (0 : Int32) then
    (some x7)
    else
    (bd (f_X6_of x7 (1 : Int32) al) (fun r_2 =>
    bd (f_X6_lastLink r_2 x2 al ho fr) (fun r_4 =>
    nm (x8 + (-1 : Int32)) (fun v_6 =>
    f_X6_link_L97 x2 al ho fr k_ r_4 v_6))))
def f_X6_link (x1 : Int32) (x2 : Int32) (x3 : Int32) (al : (Nat → Int32)) (th : Int32) (ho : (Nat → Int32)) (fr : (Nat → Int32)) : Option (Int32 × Int32 × (Nat → Int32) × (Nat → Int32)) :=
  bd (f_X6_isPerson x1) (fun r_7 =>
  if r_7 = (0 : Int32) then
  (bd2 (f_X6_goes (0 : Int32) (1 : Int32) (1 : Int32) th) (fun r_12 th_13 =>
  if r_12 = (0 : Int32) then
  (some ((0 : Int32), th_13, ho, fr))
  else
  (bd (f_X6_lastLink x1 x2 al ho fr) (fun r_16 =>
  nm (((0 : Int32) - (1 : Int32)) - x3) (fun v_18 =>
  bd (f_X6_link_L97 x2 al ho fr FU r_16 v_18) (fun y7_19 =>
  bd (f_X6_of y7_19 (0 : Int32) al) (fun r_21 =>
  some (r_21, th_13, ho, fr))))))))
  else
  (bd (f_X6_isThing x2 al) (fun r_23 =>
  if r_23 = (0 : Int32) then
  (bd2 (f_X6_goes (0 : Int32) (1 : Int32) (1 : Int32) th) (fun r_28 th_29 =>
  if r_28 = (0 : Int32) then
  (some ((0 : Int32), th_29, ho, fr))
  else
  (bd (f_X6_lastLink x1 x2 al ho fr) (fun r_32 =>
  nm (((0 : Int32) - (1 : Int32)) - x3) (fun v_34 =>
  bd (f_X6_link_L97 x2 al ho fr FU r_32 v_34) (fun y7_35 =>
  bd (f_X6_of y7_35 (0 : Int32) al) (fun r_37 =>
  some (r_37, th_29, ho, fr))))))))
  else
  (bd (f_X6_lay al ho) (fun ho_40 =>
  bd2 (f_X6_chainOf x1 x2 al ho_40 fr) (fun r_42 fr_43 =>
  bd (f_X6_in x3.toInt64 (0 : Int64) (r_42.toInt64 - (1 : Int64))) (fun r_46 =>
  if r_46 = (0 : Int32) then
  (bd2 (f_X6_goes (0 : Int32) (1 : Int32) (1 : Int32) th) (fun r_49 th_50 =>
  if r_49 = (0 : Int32) then
  (some ((0 : Int32), th_50, ho_40, fr_43))
  else
  (bd (f_X6_lastLink x1 x2 al ho_40 fr_43) (fun r_53 =>
  nm ((r_42 - (1 : Int32)) - x3) (fun v_55 =>
  bd (f_X6_link_L97 x2 al ho_40 fr_43 FU r_53 v_55) (fun y7_56 =>
  bd (f_X6_of y7_56 (0 : Int32) al) (fun r_58 =>
  some (r_58, th_50, ho_40, fr_43))))))))
  else
  (bd2 (f_X6_goes (1 : Int32) (1 : Int32) (1 : Int32) th) (fun r_60 th_61 =>
  if r_60 = (0 : Int32) then
  (some ((0 : Int32), th_61, ho_40, fr_43))
  else
  (bd (f_X6_lastLink x1 x2 al ho_40 fr_43) (fun r_64 =>
  nm ((r_42 - (1 : Int32)) - x3) (fun v_66 =>
  bd (f_X6_link_L97 x2 al ho_40 fr_43 FU r_64 v_66) (fun y7_67 =>
  bd (f_X6_of y7_67 (0 : Int32) al) (fun r_69 =>
  some (r_69, th_61, ho_40, fr_43)))))))))))))))
def f_X6_grantsWith_L6 (x1 : Int32) (x2 : Int32) (x3 : Int32) (x4 : Int32) (al : (Nat → Int32)) (ho : (Nat → Int32)) : Nat → Int32 → Int32 →  Option (Int32)
  | 0, _, _ => none
  | k_ + 1, x5, x6 =>
    ix (5 : Int32) 320 (
    if al (5 : Int32).toNatClampNeg ≤ x6 then
    (some x5)
    else
    (bd (f_X6_of x6 (3 : Int32) al) (fun r_3 =>
    if r_3 = x2 then
    (bd (f_X6_of x6 (2 : Int32) al) (fun r_9 =>
    if r_9 = x1 then
    (bd (f_X6_of x6 (4 : Int32) al) (fun r_15 =>
    if r_15 &&& x3 = (0 : Int32) then
    (nm (x5 + (0 : Int32)) (fun v_19 =>
    nm (x6 + (1 : Int32)) (fun v_20 =>
    f_X6_grantsWith_L6 x1 x2 x3 x4 al ho k_ v_19 v_20)))
    else
    (bd (f_X6_of x6 (1 : Int32) al) (fun r_22 =>
    bd (f_X6_holds r_22 x2 ho) (fun r_24 =>
    if r_24 &&& x4 = x4 then
    (nm (x5 + (1 : Int32)) (fun v_29 =>
    nm (x6 + (1 : Int32)) (fun v_30 =>
    f_X6_grantsWith_L6 x1 x2 x3 x4 al ho k_ v_29 v_30)))
    else
    (nm (x5 + (0 : Int32)) (fun v_27 =>
    nm (x6 + (1 : Int32)) (fun v_28 =>
    f_X6_grantsWith_L6 x1 x2 x3 x4 al ho k_ v_27 v_28))))))))
    else
    (nm (x5 + (0 : Int32)) (fun v_13 =>
    nm (x6 + (1 : Int32)) (fun v_14 =>
    f_X6_grantsWith_L6 x1 x2 x3 x4 al ho k_ v_13 v_14)))))
    else
    (nm (x5 + (0 : Int32)) (fun v_7 =>
    nm (x6 + (1 : Int32)) (fun v_8 =>
    f_X6_grantsWith_L6 x1 x2 x3 x4 al ho k_ v_7 v_8))))))
def f_X6_grantsWith (x1 : Int32) (x2 : Int32) (x3 : Int32) (x4 : Int32) (al : (Nat → Int32)) (ho : (Nat → Int32)) : Option (Int32) :=
  bd (f_X6_grantsWith_L6 x1 x2 x3 x4 al ho FU (0 : Int32) (0 : Int32)) (fun y5_31 =>
  some y5_31)
def f_X6_why (x1 : Int32) (x2 : Int32) (x3 : Int32) (al : (Nat → Int32)) (th : Int32) (ho : (Nat → Int32)) : Option (Int32 × Int32 × (Nat → Int32)) :=
  bd (f_X6_isPerson x1) (fun r_1 =>
  if r_1 = (0 : Int32) then
  (if x3 = (1 : Int32) then
  (bd2 (f_X6_goes (0 : Int32) (1 : Int32) (1 : Int32) th) (fun r_5 th_6 =>
  if r_5 = (0 : Int32) then
  (some ((0 : Int32), th_6, ho))
  else
  (bd (f_X6_lay al ho) (fun ho_9 =>
  bd (f_X6_holds x1 x2 ho_9) (fun r_11 =>
  if r_11 &&& x3 = (0 : Int32) then
  (bd (f_X6_mask x2 al) (fun r_14 =>
  if r_14 &&& x3 = (0 : Int32) then
  (some ((1 : Int32), th_6, ho_9))
  else
  (bd (f_X6_grantsWith x1 x2 x3 (0 : Int32) al ho_9) (fun r_17 =>
  if r_17 = (0 : Int32) then
  (some ((2 : Int32), th_6, ho_9))
  else
  (bd (f_X6_grantsWith x1 x2 x3 (4 : Int32) al ho_9) (fun r_20 =>
  if r_20 = (0 : Int32) then
  (some ((3 : Int32), th_6, ho_9))
  else
  (some ((4 : Int32), th_6, ho_9))))))))
  else
  (some ((0 : Int32), th_6, ho_9)))))))
  else
  (if x3 = (2 : Int32) then
  (bd2 (f_X6_goes (0 : Int32) (1 : Int32) (1 : Int32) th) (fun r_24 th_25 =>
  if r_24 = (0 : Int32) then
  (some ((0 : Int32), th_25, ho))
  else
  (bd (f_X6_lay al ho) (fun ho_28 =>
  bd (f_X6_holds x1 x2 ho_28) (fun r_30 =>
  if r_30 &&& x3 = (0 : Int32) then
  (bd (f_X6_mask x2 al) (fun r_33 =>
  if r_33 &&& x3 = (0 : Int32) then
  (some ((1 : Int32), th_25, ho_28))
  else
  (bd (f_X6_grantsWith x1 x2 x3 (0 : Int32) al ho_28) (fun r_36 =>
  if r_36 = (0 : Int32) then
  (some ((2 : Int32), th_25, ho_28))
  else
  (bd (f_X6_grantsWith x1 x2 x3 (4 : Int32) al ho_28) (fun r_39 =>
  if r_39 = (0 : Int32) then
  (some ((3 : Int32), th_25, ho_28))
  else
  (some ((4 : Int32), th_25, ho_28))))))))
  else
  (some ((0 : Int32), th_25, ho_28)))))))
  else
  (if x3 = (4 : Int32) then
  (bd2 (f_X6_goes (0 : Int32) (1 : Int32) (1 : Int32) th) (fun r_61 th_62 =>
  if r_61 = (0 : Int32) then
  (some ((0 : Int32), th_62, ho))
  else
  (bd (f_X6_lay al ho) (fun ho_65 =>
  bd (f_X6_holds x1 x2 ho_65) (fun r_67 =>
  if r_67 &&& x3 = (0 : Int32) then
  (bd (f_X6_mask x2 al) (fun r_70 =>
  if r_70 &&& x3 = (0 : Int32) then
  (some ((1 : Int32), th_62, ho_65))
  else
  (bd (f_X6_grantsWith x1 x2 x3 (0 : Int32) al ho_65) (fun r_73 =>
  if r_73 = (0 : Int32) then
  (some ((2 : Int32), th_62, ho_65))
  else
  (bd (f_X6_grantsWith x1 x2 x3 (4 : Int32) al ho_65) (fun r_76 =>
  if r_76 = (0 : Int32) then
  (some ((3 : Int32), th_62, ho_65))
  else
  (some ((4 : Int32), th_62, ho_65))))))))
  else
  (some ((0 : Int32), th_62, ho_65)))))))
  else
  (bd2 (f_X6_goes (0 : Int32) (0 : Int32) (1 : Int32) th) (fun r_43 th_44 =>
  if r_43 = (0 : Int32) then
  (some ((0 : Int32), th_44, ho))
  else
  (bd (f_X6_lay al ho) (fun ho_47 =>
  bd (f_X6_holds x1 x2 ho_47) (fun r_49 =>
  if r_49 &&& x3 = (0 : Int32) then
  (bd (f_X6_mask x2 al) (fun r_52 =>
  if r_52 &&& x3 = (0 : Int32) then
  (some ((1 : Int32), th_44, ho_47))
  else
  (bd (f_X6_grantsWith x1 x2 x3 (0 : Int32) al ho_47) (fun r_55 =>
  if r_55 = (0 : Int32) then
  (some ((2 : Int32), th_44, ho_47))
  else
  (bd (f_X6_grantsWith x1 x2 x3 (4 : Int32) al ho_47) (fun r_58 =>
  if r_58 = (0 : Int32) then
  (some ((3 : Int32), th_44, ho_47))
  else
  (some ((4 : Int32), th_44, ho_47))))))))
  else
  (some ((0 : Int32), th_44, ho_47))))))))))
  else
  (bd (f_X6_isThing x2 al) (fun r_79 =>
  if r_79 = (0 : Int32) then
  (if x3 = (1 : Int32) then
  (bd2 (f_X6_goes (0 : Int32) (1 : Int32) (1 : Int32) th) (fun r_83 th_84 =>
  if r_83 = (0 : Int32) then
  (some ((0 : Int32), th_84, ho))
  else
  (bd (f_X6_lay al ho) (fun ho_87 =>
  bd (f_X6_holds x1 x2 ho_87) (fun r_89 =>
  if r_89 &&& x3 = (0 : Int32) then
  (bd (f_X6_mask x2 al) (fun r_92 =>
  if r_92 &&& x3 = (0 : Int32) then
  (some ((1 : Int32), th_84, ho_87))
  else
  (bd (f_X6_grantsWith x1 x2 x3 (0 : Int32) al ho_87) (fun r_95 =>
  if r_95 = (0 : Int32) then
  (some ((2 : Int32), th_84, ho_87))
  else
  (bd (f_X6_grantsWith x1 x2 x3 (4 : Int32) al ho_87) (fun r_98 =>
  if r_98 = (0 : Int32) then
  (some ((3 : Int32), th_84, ho_87))
  else
  (some ((4 : Int32), th_84, ho_87))))))))
  else
  (some ((0 : Int32), th_84, ho_87)))))))
  else
  (if x3 = (2 : Int32) then
  (bd2 (f_X6_goes (0 : Int32) (1 : Int32) (1 : Int32) th) (fun r_102 th_103 =>
  if r_102 = (0 : Int32) then
  (some ((0 : Int32), th_103, ho))
  else
  (bd (f_X6_lay al ho) (fun ho_106 =>
  bd (f_X6_holds x1 x2 ho_106) (fun r_108 =>
  if r_108 &&& x3 = (0 : Int32) then
  (bd (f_X6_mask x2 al) (fun r_111 =>
  if r_111 &&& x3 = (0 : Int32) then
  (some ((1 : Int32), th_103, ho_106))
  else
  (bd (f_X6_grantsWith x1 x2 x3 (0 : Int32) al ho_106) (fun r_114 =>
  if r_114 = (0 : Int32) then
  (some ((2 : Int32), th_103, ho_106))
  else
  (bd (f_X6_grantsWith x1 x2 x3 (4 : Int32) al ho_106) (fun r_117 =>
  if r_117 = (0 : Int32) then
  (some ((3 : Int32), th_103, ho_106))
  else
  (some ((4 : Int32), th_103, ho_106))))))))
  else
  (some ((0 : Int32), th_103, ho_106)))))))
  else
  (if x3 = (4 : Int32) then
  (bd2 (f_X6_goes (0 : Int32) (1 : Int32) (1 : Int32) th) (fun r_139 th_140 =>
  if r_139 = (0 : Int32) then
  (some ((0 : Int32), th_140, ho))
  else
  (bd (f_X6_lay al ho) (fun ho_143 =>
  bd (f_X6_holds x1 x2 ho_143) (fun r_145 =>
  if r_145 &&& x3 = (0 : Int32) then
  (bd (f_X6_mask x2 al) (fun r_148 =>
  if r_148 &&& x3 = (0 : Int32) then
  (some ((1 : Int32), th_140, ho_143))
  else
  (bd (f_X6_grantsWith x1 x2 x3 (0 : Int32) al ho_143) (fun r_151 =>
  if r_151 = (0 : Int32) then
  (some ((2 : Int32), th_140, ho_143))
  else
  (bd (f_X6_grantsWith x1 x2 x3 (4 : Int32) al ho_143) (fun r_154 =>
  if r_154 = (0 : Int32) then
  (some ((3 : Int32), th_140, ho_143))
  else
  (some ((4 : Int32), th_140, ho_143))))))))
  else
  (some ((0 : Int32), th_140, ho_143)))))))
  else
  (bd2 (f_X6_goes (0 : Int32) (0 : Int32) (1 : Int32) th) (fun r_121 th_122 =>
  if r_121 = (0 : Int32) then
  (some ((0 : Int32), th_122, ho))
  else
  (bd (f_X6_lay al ho) (fun ho_125 =>
  bd (f_X6_holds x1 x2 ho_125) (fun r_127 =>
  if r_127 &&& x3 = (0 : Int32) then
  (bd (f_X6_mask x2 al) (fun r_130 =>
  if r_130 &&& x3 = (0 : Int32) then
  (some ((1 : Int32), th_122, ho_125))
  else
  (bd (f_X6_grantsWith x1 x2 x3 (0 : Int32) al ho_125) (fun r_133 =>
  if r_133 = (0 : Int32) then
  (some ((2 : Int32), th_122, ho_125))
  else
  (bd (f_X6_grantsWith x1 x2 x3 (4 : Int32) al ho_125) (fun r_136 =>
  if r_136 = (0 : Int32) then
  (some ((3 : Int32), th_122, ho_125))
  else
  (some ((4 : Int32), th_122, ho_125))))))))
  else
  (some ((0 : Int32), th_122, ho_125))))))))))
  else
  (if x3 = (1 : Int32) then
  (bd2 (f_X6_goes (1 : Int32) (1 : Int32) (1 : Int32) th) (fun r_158 th_159 =>
  if r_158 = (0 : Int32) then
  (some ((0 : Int32), th_159, ho))
  else
  (bd (f_X6_lay al ho) (fun ho_162 =>
  bd (f_X6_holds x1 x2 ho_162) (fun r_164 =>
  if r_164 &&& x3 = (0 : Int32) then
  (bd (f_X6_mask x2 al) (fun r_167 =>
  if r_167 &&& x3 = (0 : Int32) then
  (some ((1 : Int32), th_159, ho_162))
  else
  (bd (f_X6_grantsWith x1 x2 x3 (0 : Int32) al ho_162) (fun r_170 =>
  if r_170 = (0 : Int32) then
  (some ((2 : Int32), th_159, ho_162))
  else
  (bd (f_X6_grantsWith x1 x2 x3 (4 : Int32) al ho_162) (fun r_173 =>
  if r_173 = (0 : Int32) then
  (some ((3 : Int32), th_159, ho_162))
  else
  (some ((4 : Int32), th_159, ho_162))))))))
  else
  (some ((0 : Int32), th_159, ho_162)))))))
  else
  (if x3 = (2 : Int32) then
  (bd2 (f_X6_goes (1 : Int32) (1 : Int32) (1 : Int32) th) (fun r_177 th_178 =>
  if r_177 = (0 : Int32) then
  (some ((0 : Int32), th_178, ho))
  else
  (bd (f_X6_lay al ho) (fun ho_181 =>
  bd (f_X6_holds x1 x2 ho_181) (fun r_183 =>
  if r_183 &&& x3 = (0 : Int32) then
  (bd (f_X6_mask x2 al) (fun r_186 =>
  if r_186 &&& x3 = (0 : Int32) then
  (some ((1 : Int32), th_178, ho_181))
  else
  (bd (f_X6_grantsWith x1 x2 x3 (0 : Int32) al ho_181) (fun r_189 =>
  if r_189 = (0 : Int32) then
  (some ((2 : Int32), th_178, ho_181))
  else
  (bd (f_X6_grantsWith x1 x2 x3 (4 : Int32) al ho_181) (fun r_192 =>
  if r_192 = (0 : Int32) then
  (some ((3 : Int32), th_178, ho_181))
  else
  (some ((4 : Int32), th_178, ho_181))))))))
  else
  (some ((0 : Int32), th_178, ho_181)))))))
  else
  (if x3 = (4 : Int32) then
  (bd2 (f_X6_goes (1 : Int32) (1 : Int32) (1 : Int32) th) (fun r_214 th_215 =>
  if r_214 = (0 : Int32) then
  (some ((0 : Int32), th_215, ho))
  else
  (bd (f_X6_lay al ho) (fun ho_218 =>
  bd (f_X6_holds x1 x2 ho_218) (fun r_220 =>
  if r_220 &&& x3 = (0 : Int32) then
  (bd (f_X6_mask x2 al) (fun r_223 =>
  if r_223 &&& x3 = (0 : Int32) then
  (some ((1 : Int32), th_215, ho_218))
  else
  (bd (f_X6_grantsWith x1 x2 x3 (0 : Int32) al ho_218) (fun r_226 =>
  if r_226 = (0 : Int32) then
  (some ((2 : Int32), th_215, ho_218))
  else
  (bd (f_X6_grantsWith x1 x2 x3 (4 : Int32) al ho_218) (fun r_229 =>
  if r_229 = (0 : Int32) then
  (some ((3 : Int32), th_215, ho_218))
  else
  (some ((4 : Int32), th_215, ho_218))))))))
  else
  (some ((0 : Int32), th_215, ho_218)))))))
  else
  (bd2 (f_X6_goes (1 : Int32) (0 : Int32) (1 : Int32) th) (fun r_196 th_197 =>
  if r_196 = (0 : Int32) then
  (some ((0 : Int32), th_197, ho))
  else
  (bd (f_X6_lay al ho) (fun ho_200 =>
  bd (f_X6_holds x1 x2 ho_200) (fun r_202 =>
  if r_202 &&& x3 = (0 : Int32) then
  (bd (f_X6_mask x2 al) (fun r_205 =>
  if r_205 &&& x3 = (0 : Int32) then
  (some ((1 : Int32), th_197, ho_200))
  else
  (bd (f_X6_grantsWith x1 x2 x3 (0 : Int32) al ho_200) (fun r_208 =>
  if r_208 = (0 : Int32) then
  (some ((2 : Int32), th_197, ho_200))
  else
  (bd (f_X6_grantsWith x1 x2 x3 (4 : Int32) al ho_200) (fun r_211 =>
  if r_211 = (0 : Int32) then
  (some ((3 : Int32), th_197, ho_200))
  else
  (some ((4 : Int32), th_197, ho_200))))))))
  else
  (some ((0 : Int32), th_197, ho_200)))))))))))))
def f_X6_idle_L4 (al : (Nat → Int32)) (ho : (Nat → Int32)) : Nat → Int32 → Int32 →  Option (Int32)
  | 0, _, _ => none
  | k_ + 1, x1, x2 =>
    ix (5 : Int32) 320 (
    if al (5 : Int32).toNatClampNeg ≤ x2 then
    (some x1)
    else
    (bd (f_X6_passes x2 al ho) (fun r_3 =>
    if r_3 = (0 : Int32) then
    (nm (x1 + (1 : Int32)) (fun v_8 =>
    nm (x2 + (1 : Int32)) (fun v_9 =>
    f_X6_idle_L4 al ho k_ v_8 v_9)))
    else
    (nm (x1 + (0 : Int32)) (fun v_6 =>
    nm (x2 + (1 : Int32)) (fun v_7 =>
    f_X6_idle_L4 al ho k_ v_6 v_7))))))
def f_X6_idle (al : (Nat → Int32)) (ho : (Nat → Int32)) : Option (Int32) :=
  bd (f_X6_idle_L4 al ho FU (0 : Int32) (0 : Int32)) (fun y1_10 =>
  some y1_10)
def f_X6_numberOf (x1 : Int32) (al : (Nat → Int32)) (ho : (Nat → Int32)) : Option (Int32 × (Nat → Int32)) :=
  if x1 = (0 : Int32) then
  (ix (4 : Int32) 320 (
  nm (al (4 : Int32).toNatClampNeg) (fun v_3 =>
  some (v_3, ho))))
  else
  (if x1 = (1 : Int32) then
  (ix (5 : Int32) 320 (
  nm (al (5 : Int32).toNatClampNeg) (fun v_6 =>
  some (v_6, ho))))
  else
  (if x1 = (2 : Int32) then
  (ix (((1 : Int32) + x1) - (2 : Int32)) 320 (
  nm (al (((1 : Int32) + x1) - (2 : Int32)).toNatClampNeg) (fun v_9 =>
  some (v_9, ho))))
  else
  (if x1 = (3 : Int32) then
  (ix (((1 : Int32) + x1) - (2 : Int32)) 320 (
  nm (al (((1 : Int32) + x1) - (2 : Int32)).toNatClampNeg) (fun v_12 =>
  some (v_12, ho))))
  else
  (if x1 = (4 : Int32) then
  (ix (((1 : Int32) + x1) - (2 : Int32)) 320 (
  nm (al (((1 : Int32) + x1) - (2 : Int32)).toNatClampNeg) (fun v_15 =>
  some (v_15, ho))))
  else
  (if x1 = (5 : Int32) then
  (ix (0 : Int32) 320 (
  nm (al (0 : Int32).toNatClampNeg) (fun v_18 =>
  some (v_18, ho))))
  else
  (if x1 = (6 : Int32) then
  (bd2 (f_X6_pairs al ho) (fun r_20 ho_21 =>
  some (r_20, ho_21)))
  else
  (if x1 = (7 : Int32) then
  (bd (f_X6_lay al ho) (fun ho_24 =>
  bd (f_X6_idle al ho_24) (fun r_26 =>
  some (r_26, ho_24))))
  else
  (ix (6 : Int32) 320 (
  nm (al (6 : Int32).toNatClampNeg) (fun v_29 =>
  some (v_29, ho)))))))))))
def f_X6_value (x1 : Int32) (al : (Nat → Int32)) (th : Int32) (ho : (Nat → Int32)) : Option (Int32 × Int32 × (Nat → Int32)) :=
  bd (f_X6_in x1.toInt64 (0 : Int64) (8 : Int64)) (fun r_1 =>
  bd2 (f_X6_goes r_1 (1 : Int32) (1 : Int32) th) (fun r_3 th_4 =>
  if r_3 = (0 : Int32) then
  (some ((0 : Int32), th_4, ho))
  else
  (bd2 (f_X6_numberOf x1 al ho) (fun r_7 ho_8 =>
  some (r_7, th_4, ho_8)))))
def f_X6_entry (x1 : Int32) (x2 : Int32) (al : (Nat → Int32)) (th : Int32) : Option (Int32 × Int32) :=
  ix (6 : Int32) 320 (
  bd (f_X6_in x1.toInt64 (0 : Int64) (((al (6 : Int32).toNatClampNeg).toInt64) - (1 : Int64))) (fun r_2 =>
  bd (f_X6_in x2.toInt64 (0 : Int64) (2 : Int64)) (fun r_4 =>
  bd2 (f_X6_goes r_2 r_4 (1 : Int32) th) (fun r_6 th_7 =>
  if r_6 = (0 : Int32) then
  (some ((0 : Int32), th_7))
  else
  (ix (((284 : Int32) + ((3 : Int32) * x1)) + x2) 320 (
  nm (al (((284 : Int32) + ((3 : Int32) * x1)) + x2).toNatClampNeg) (fun v_11 =>
  some (v_11, th_7))))))))
def f_X6_lost (x1 : Int32) (al : (Nat → Int32)) (asd : (Nat → Int32)) (ho : (Nat → Int32)) : Option (Int32 × (Nat → Int32) × (Nat → Int32) × (Nat → Int32)) :=
  bd2 (f_X6_pairs al ho) (fun r_1 ho_2 =>
  bd (f_X6_layAside al asd) (fun asd_4 =>
  ix ((8 : Int32) + x1) 320 (
  nm (upd al ((8 : Int32) + x1).toNatClampNeg (0 : Int32)) (fun al_7 =>
  bd2 (f_X6_die al_7) (fun r_8 al_9 =>
  bd2 (f_X6_pairs al_9 ho_2) (fun r_11 ho_12 =>
  nm (r_1 - r_11) (fun v_14 =>
  bd (f_X6_takeBack al_9 asd_4) (fun al_15 =>
  some (v_14, al_15, asd_4, ho_12)))))))))
def f_X6_lostBy (x1 : Int32) (al : (Nat → Int32)) (asd : (Nat → Int32)) (th : Int32) (ho : (Nat → Int32)) : Option (Int32 × (Nat → Int32) × (Nat → Int32) × Int32 × (Nat → Int32)) :=
  bd (f_X6_isPerson x1) (fun r_1 =>
  bd2 (f_X6_goes r_1 (1 : Int32) (1 : Int32) th) (fun r_3 th_4 =>
  if r_3 = (0 : Int32) then
  (some ((0 : Int32), al, asd, th_4, ho))
  else
  (bd4 (f_X6_lost x1 al asd ho) (fun r_7 al_8 asd_9 ho_10 =>
  some (r_7, al_8, asd_9, th_4, ho_10)))))
def f_X6_mostNeeded_L11  : Nat → Int32 → Int32 → Int32 → (Nat → Int32) → (Nat → Int32) → (Nat → Int32) →  Option (Int32 × (Nat → Int32) × (Nat → Int32) × (Nat → Int32))
  | 0, _, _, _, _, _, _ => none
  | k_ + 1, x1, x2, x3, al, asd, ho =>
    if (10 : Int32) ≤ x3 then
    (some (x1, al, asd, ho))
    else
    (bd4 (f_X6_lost x3 al asd ho) (fun r_2 al_3 asd_4 ho_5 =>
    if r_2 ≤ x2 then
    (if r_2 ≤ x2 then
    (nm (x3 + (1 : Int32)) (fun v_9 =>
    f_X6_mostNeeded_L11 k_ x1 x2 v_9 al_3 asd_4 ho_5))
    else
    (nm (x3 + (1 : Int32)) (fun v_10 =>
    f_X6_mostNeeded_L11 k_ x1 r_2 v_10 al_3 asd_4 ho_5)))
    else
    (if r_2 ≤ x2 then
    (nm (x3 + (1 : Int32)) (fun v_12 =>
    f_X6_mostNeeded_L11 k_ x3 x2 v_12 al_3 asd_4 ho_5))
    else
    (nm (x3 + (1 : Int32)) (fun v_13 =>
    f_X6_mostNeeded_L11 k_ x3 r_2 v_13 al_3 asd_4 ho_5)))))
def f_X6_mostNeeded (al : (Nat → Int32)) (asd : (Nat → Int32)) (th : Int32) (ho : (Nat → Int32)) : Option (Int32 × (Nat → Int32) × (Nat → Int32) × Int32 × (Nat → Int32)) :=
  bd4 (f_X6_mostNeeded_L11 FU (-1 : Int32) (0 : Int32) (0 : Int32) al asd ho) (fun y1_14 al_15 asd_16 ho_17 =>
  some (y1_14, al_15, asd_16, (0 : Int32), ho_17))
def f_X6_seenIn (x1 : Int32) (al : (Nat → Int32)) (asd : (Nat → Int32)) (th : Int32) (ho : (Nat → Int32)) : Option (Int32 × (Nat → Int32) × (Nat → Int32) × Int32 × (Nat → Int32)) :=
  bd (f_X6_in x1.toInt64 (0 : Int64) (100 : Int64)) (fun r_1 =>
  bd2 (f_X6_goes r_1 (1 : Int32) (1 : Int32) th) (fun r_3 th_4 =>
  if r_3 = (0 : Int32) then
  (some ((0 : Int32), al, asd, th_4, ho))
  else
  (bd (f_X6_layAside al asd) (fun asd_7 =>
  bd2 (f_X6_ticks x1 al) (fun r_9 al_10 =>
  bd2 (f_X6_pairs al_10 ho) (fun r_12 ho_13 =>
  bd (f_X6_takeBack al_10 asd_7) (fun al_15 =>
  some (r_12, al_15, asd_7, th_4, ho_13))))))))
def f_X6_gainBy (x1 : Int32) (x2 : Int32) (x3 : Int32) (x4 : Int32) (x5 : Int32) (al : (Nat → Int32)) (asd : (Nat → Int32)) (th : Int32) (ho : (Nat → Int32)) : Option (Int32 × (Nat → Int32) × (Nat → Int32) × Int32 × (Nat → Int32)) :=
  bd (f_X6_arePersons x1 x2 x3 al) (fun r_1 =>
  bd (f_X6_isGrant x1 x2 x4 x5) (fun r_3 =>
  bd2 (f_X6_goes r_1 r_3 (1 : Int32) th) (fun r_5 th_6 =>
  if r_5 = (0 : Int32) then
  (some ((0 : Int32), al, asd, th_6, ho))
  else
  (bd2 (f_X6_mayGrant x1 x3 x4 x5 al ho) (fun r_9 ho_10 =>
  if r_9 = (0 : Int32) then
  (some ((-1 : Int32), al, asd, th_6, ho_10))
  else
  (bd2 (f_X6_pairs al ho_10) (fun r_13 ho_14 =>
  bd (f_X6_layAside al asd) (fun asd_16 =>
  bd (f_X6_lays x1 x2 x3 x4 x5 al) (fun al_18 =>
  bd2 (f_X6_pairs al_18 ho_14) (fun r_20 ho_21 =>
  nm (r_20 - r_13) (fun v_23 =>
  bd (f_X6_takeBack al_18 asd_16) (fun al_24 =>
  some (v_23, al_24, asd_16, th_6, ho_21)))))))))))))
def f_X6_patience_L19 (x1 : Int32) (al : (Nat → Int32)) : Nat → Int32 → Int32 →  Option (Int32)
  | 0, _, _ => none
  | k_ + 1, x2, x3 =>
    ix (5 : Int32) 320 (
    if al (5 : Int32).toNatClampNeg ≤ x3 then
    (some x2)
    else
    (bd (f_X6_of x3 (1 : Int32) al) (fun r_3 =>
    if r_3 = x1 then
    (bd (f_X6_of x3 (5 : Int32) al) (fun r_7 =>
    if r_7 ≤ x2 then
    (nm (x3 + (1 : Int32)) (fun v_10 =>
    f_X6_patience_L19 x1 al k_ x2 v_10))
    else
    (bd (f_X6_of x3 (5 : Int32) al) (fun r_11 =>
    nm (x3 + (1 : Int32)) (fun v_13 =>
    f_X6_patience_L19 x1 al k_ r_11 v_13)))))
    else
    (nm (x3 + (1 : Int32)) (fun v_6 =>
    f_X6_patience_L19 x1 al k_ x2 v_6)))))
def f_X6_patience (x1 : Int32) (al : (Nat → Int32)) (th : Int32) : Option (Int32 × Int32) :=
  bd (f_X6_isPerson x1) (fun r_14 =>
  bd2 (f_X6_goes r_14 (1 : Int32) (1 : Int32) th) (fun r_16 th_17 =>
  if r_16 = (0 : Int32) then
  (some ((0 : Int32), th_17))
  else
  (bd (f_X6_patience_L19 x1 al FU (0 : Int32) (0 : Int32)) (fun y2_20 =>
  ix ((8 : Int32) + x1) 320 (
  nm ((al ((8 : Int32) + x1).toNatClampNeg) - y2_20) (fun v_23 =>
  some (v_23, th_17)))))))
def f_X6_append (x1 : Int32) (th : Int32) (txt : (Nat → Int32)) (tl : Int32) : Option (Int32 × Int32 × (Nat → Int32) × Int32) :=
  bd (f_X6_in x1.toInt64 (0 : Int64) (127 : Int64)) (fun r_1 =>
  if (100 : Int32) ≤ tl then
  (bd2 (f_X6_goes r_1 (0 : Int32) (1 : Int32) th) (fun r_4 th_5 =>
  if r_4 = (0 : Int32) then
  (some ((0 : Int32), th_5, txt, tl))
  else
  (ix tl 100 (
  nm (upd txt tl.toNatClampNeg x1) (fun txt_9 =>
  nm (tl + (1 : Int32)) (fun v_10 =>
  some (v_10, th_5, txt_9, v_10)))))))
  else
  (bd2 (f_X6_goes r_1 (1 : Int32) (1 : Int32) th) (fun r_11 th_12 =>
  if r_11 = (0 : Int32) then
  (some ((0 : Int32), th_12, txt, tl))
  else
  (ix tl 100 (
  nm (upd txt tl.toNatClampNeg x1) (fun txt_16 =>
  nm (tl + (1 : Int32)) (fun v_17 =>
  some (v_17, th_12, txt_16, v_17))))))))
def f_X6_clearText (th : Int32) (tl : Int32) : Option (Int32 × Int32 × Int32) :=
  some (tl, (0 : Int32), (0 : Int32))
def f_X6_here (txt : (Nat → Int32)) (tl : Int32) (pos : Int32) : Option (Int32) :=
  if tl ≤ pos then
  (some (-1 : Int32))
  else
  (ix pos 100 (
  nm (txt pos.toNatClampNeg) (fun v_3 =>
  some v_3)))
def f_X6_takesByte (x1 : Int32) (txt : (Nat → Int32)) (tl : Int32) (pos : Int32) : Option (Int32 × Int32) :=
  bd (f_X6_here txt tl pos) (fun r_1 =>
  if r_1 = x1 then
  (nm (pos + (1 : Int32)) (fun v_7 =>
  some ((1 : Int32), v_7)))
  else
  (nm (pos + (0 : Int32)) (fun v_5 =>
  some ((0 : Int32), v_5))))
def f_X6_takesDigit (x1 : Int32) (x2 : Int32) (x3 : Int32) (txt : (Nat → Int32)) (tl : Int32) (pos : Int32) (nu : (Nat → Int32)) : Option (Int32 × Int32 × (Nat → Int32)) :=
  bd (f_X6_here txt tl pos) (fun r_1 =>
  bd (f_X6_in r_1.toInt64 (((48 : Int32) + x2).toInt64) (((48 : Int32) + x3).toInt64)) (fun r_3 =>
  if r_3 = (0 : Int32) then
  (some ((0 : Int32), pos, nu))
  else
  (bd (f_X6_here txt tl pos) (fun r_6 =>
  nm (r_6 - (48 : Int32)) (fun v_8 =>
  ix x1 5 (
  nm (upd nu x1.toNatClampNeg v_8) (fun nu_10 =>
  nm (pos + (1 : Int32)) (fun v_11 =>
  some ((1 : Int32), v_11, nu_10)))))))))
def f_X6_takesNumber_L9 (x2 : Int32) (x5 : Int32) (txt : (Nat → Int32)) (tl : Int32) : Nat → Int32 → Int32 →  Option (Int32 × Int32)
  | 0, _, _ => none
  | k_ + 1, x6, pos =>
    bd (f_X6_here txt tl pos) (fun r_1 =>
    bd (f_X6_in r_1.toInt64 (48 : Int64) (57 : Int64)) (fun r_3 =>
    if r_3 = (0 : Int32) then
    (some (x6, pos))
    else
    (if x5 + x2 ≤ pos then
    (some (x6, pos))
    else
    (bd (f_X6_here txt tl pos) (fun r_7 =>
    nm ((((10 : Int32) * x6) + r_7) - (48 : Int32)) (fun v_9 =>
    nm (pos + (1 : Int32)) (fun v_10 =>
    f_X6_takesNumber_L9 x2 x5 txt tl k_ v_9 v_10)))))))
def f_X6_takesNumber (x1 : Int32) (x2 : Int32) (x3 : Int32) (x4 : Int32) (txt : (Nat → Int32)) (tl : Int32) (pos : Int32) (nu : (Nat → Int32)) : Option (Int32 × Int32 × (Nat → Int32)) :=
  bd2 (f_X6_takesNumber_L9 x2 pos txt tl FU (0 : Int32) pos) (fun y6_11 pos_12 =>
  if pos_12 = pos then
  (some ((0 : Int32), pos_12, nu))
  else
  (bd (f_X6_here txt tl pos_12) (fun r_15 =>
  bd (f_X6_in r_15.toInt64 (48 : Int64) (57 : Int64)) (fun r_17 =>
  if r_17 = (0 : Int32) then
  (ix x1 5 (
  nm (upd nu x1.toNatClampNeg y6_11) (fun nu_21 =>
  bd (f_X6_in y6_11.toInt64 x3.toInt64 x4.toInt64) (fun r_22 =>
  if r_22 = (0 : Int32) then
  (if pos ≤ pos then
  (some ((0 : Int32), pos, nu_21))
  else
  (some ((1 : Int32), pos, nu_21)))
  else
  (if pos_12 ≤ pos then
  (some ((0 : Int32), pos_12, nu_21))
  else
  (some ((1 : Int32), pos_12, nu_21)))))))
  else
  (some ((0 : Int32), pos_12, nu))))))
def f_X6_takesSign (txt : (Nat → Int32)) (tl : Int32) (pos : Int32) (nu : (Nat → Int32)) : Option (Int32 × Int32 × (Nat → Int32)) :=
  bd (f_X6_here txt tl pos) (fun r_1 =>
  if r_1 = (45 : Int32) then
  (ix (2 : Int32) 5 (
  nm (upd nu (2 : Int32).toNatClampNeg (-1 : Int32)) (fun nu_19 =>
  bd (f_X6_here txt tl pos) (fun r_20 =>
  if r_20 = (43 : Int32) then
  (nm (pos + (1 : Int32)) (fun v_24 =>
  some ((1 : Int32), v_24, nu_19)))
  else
  (bd (f_X6_here txt tl pos) (fun r_25 =>
  if r_25 = (45 : Int32) then
  (nm (pos + (1 : Int32)) (fun v_31 =>
  some ((1 : Int32), v_31, nu_19)))
  else
  (nm (pos + (0 : Int32)) (fun v_29 =>
  some ((0 : Int32), v_29, nu_19)))))))))
  else
  (ix (2 : Int32) 5 (
  nm (upd nu (2 : Int32).toNatClampNeg (1 : Int32)) (fun nu_5 =>
  bd (f_X6_here txt tl pos) (fun r_6 =>
  if r_6 = (43 : Int32) then
  (nm (pos + (1 : Int32)) (fun v_10 =>
  some ((1 : Int32), v_10, nu_5)))
  else
  (bd (f_X6_here txt tl pos) (fun r_11 =>
  if r_11 = (45 : Int32) then
  (nm (pos + (1 : Int32)) (fun v_17 =>
  some ((1 : Int32), v_17, nu_5)))
  else
  (nm (pos + (0 : Int32)) (fun v_15 =>
  some ((0 : Int32), v_15, nu_5))))))))))
def f_X6_takesParts (txt : (Nat → Int32)) (tl : Int32) (pos : Int32) (od : Int32) (nu : (Nat → Int32)) : Option (Int32 × Int32 × (Nat → Int32)) :=
  if od = (99 : Int32) then
  (bd3 (f_X6_takesDigit (0 : Int32) (0 : Int32) (9 : Int32) txt tl pos nu) (fun r_2 pos_3 nu_4 =>
  if r_2 = (0 : Int32) then
  (some ((0 : Int32), pos_3, nu_4))
  else
  (bd3 (f_X6_takesSign txt tl pos_3 nu_4) (fun r_7 pos_8 nu_9 =>
  if r_7 = (0 : Int32) then
  (some ((0 : Int32), pos_8, nu_9))
  else
  (bd3 (f_X6_takesNumber (1 : Int32) (3 : Int32) (0 : Int32) (100 : Int32) txt tl pos_8 nu_9) (fun r_12 pos_13 nu_14 =>
  if r_12 = (0 : Int32) then
  (some ((0 : Int32), pos_13, nu_14))
  else
  (some ((1 : Int32), pos_13, nu_14))))))))
  else
  (if od = (103 : Int32) then
  (bd3 (f_X6_takesDigit (0 : Int32) (0 : Int32) (9 : Int32) txt tl pos nu) (fun r_18 pos_19 nu_20 =>
  if r_18 = (0 : Int32) then
  (some ((0 : Int32), pos_19, nu_20))
  else
  (bd3 (f_X6_takesDigit (1 : Int32) (0 : Int32) (9 : Int32) txt tl pos_19 nu_20) (fun r_23 pos_24 nu_25 =>
  if r_23 = (0 : Int32) then
  (some ((0 : Int32), pos_24, nu_25))
  else
  (bd3 (f_X6_takesDigit (2 : Int32) (0 : Int32) (7 : Int32) txt tl pos_24 nu_25) (fun r_28 pos_29 nu_30 =>
  if r_28 = (0 : Int32) then
  (some ((0 : Int32), pos_29, nu_30))
  else
  (bd3 (f_X6_takesDigit (3 : Int32) (1 : Int32) (7 : Int32) txt tl pos_29 nu_30) (fun r_33 pos_34 nu_35 =>
  if r_33 = (0 : Int32) then
  (some ((0 : Int32), pos_34, nu_35))
  else
  (bd2 (f_X6_takesByte (44 : Int32) txt tl pos_34) (fun r_38 pos_39 =>
  if r_38 = (0 : Int32) then
  (some ((0 : Int32), pos_39, nu_35))
  else
  (bd3 (f_X6_takesNumber (4 : Int32) (3 : Int32) (0 : Int32) (100 : Int32) txt tl pos_39 nu_35) (fun r_42 pos_43 nu_44 =>
  if r_42 = (0 : Int32) then
  (some ((0 : Int32), pos_43, nu_44))
  else
  (some ((1 : Int32), pos_43, nu_44))))))))))))))
  else
  (if od = (118 : Int32) then
  (bd3 (f_X6_takesNumber (0 : Int32) (3 : Int32) (0 : Int32) (999 : Int32) txt tl pos nu) (fun r_48 pos_49 nu_50 =>
  some (r_48, pos_49, nu_50)))
  else
  (bd3 (f_X6_takesNumber (0 : Int32) (2 : Int32) (1 : Int32) (50 : Int32) txt tl pos nu) (fun r_52 pos_53 nu_54 =>
  some (r_52, pos_53, nu_54)))))
def f_X6_takesOrder (txt : (Nat → Int32)) (tl : Int32) (pos : Int32) (od : Int32) (nu : (Nat → Int32)) : Option (Int32 × Int32 × Int32 × (Nat → Int32)) :=
  bd (f_X6_here txt tl pos) (fun r_1 =>
  if r_1 = (103 : Int32) then
  (nm (pos + (1 : Int32)) (fun v_4 =>
  bd3 (f_X6_takesParts txt tl v_4 r_1 nu) (fun r_5 pos_6 nu_7 =>
  if r_5 = (0 : Int32) then
  (some ((0 : Int32), pos_6, r_1, nu_7))
  else
  (bd (f_X6_here txt tl pos_6) (fun r_10 =>
  if r_10 = (59 : Int32) then
  (nm (pos_6 + (1 : Int32)) (fun v_13 =>
  some ((1 : Int32), v_13, r_1, nu_7)))
  else
  (some ((0 : Int32), pos_6, r_1, nu_7)))))))
  else
  (if r_1 = (118 : Int32) then
  (nm (pos + (1 : Int32)) (fun v_15 =>
  bd3 (f_X6_takesParts txt tl v_15 r_1 nu) (fun r_16 pos_17 nu_18 =>
  if r_16 = (0 : Int32) then
  (some ((0 : Int32), pos_17, r_1, nu_18))
  else
  (bd (f_X6_here txt tl pos_17) (fun r_21 =>
  if r_21 = (59 : Int32) then
  (nm (pos_17 + (1 : Int32)) (fun v_24 =>
  some ((1 : Int32), v_24, r_1, nu_18)))
  else
  (some ((0 : Int32), pos_17, r_1, nu_18)))))))
  else
  (if r_1 = (99 : Int32) then
  (nm (pos + (1 : Int32)) (fun v_26 =>
  bd3 (f_X6_takesParts txt tl v_26 r_1 nu) (fun r_27 pos_28 nu_29 =>
  if r_27 = (0 : Int32) then
  (some ((0 : Int32), pos_28, r_1, nu_29))
  else
  (bd (f_X6_here txt tl pos_28) (fun r_32 =>
  if r_32 = (59 : Int32) then
  (nm (pos_28 + (1 : Int32)) (fun v_35 =>
  some ((1 : Int32), v_35, r_1, nu_29)))
  else
  (some ((0 : Int32), pos_28, r_1, nu_29)))))))
  else
  (if r_1 = (116 : Int32) then
  (nm (pos + (1 : Int32)) (fun v_37 =>
  bd3 (f_X6_takesParts txt tl v_37 r_1 nu) (fun r_38 pos_39 nu_40 =>
  if r_38 = (0 : Int32) then
  (some ((0 : Int32), pos_39, r_1, nu_40))
  else
  (bd (f_X6_here txt tl pos_39) (fun r_43 =>
  if r_43 = (59 : Int32) then
  (nm (pos_39 + (1 : Int32)) (fun v_46 =>
  some ((1 : Int32), v_46, r_1, nu_40)))
  else
  (some ((0 : Int32), pos_39, r_1, nu_40)))))))
  else
  (some ((0 : Int32), pos, r_1, nu))))))
def f_X6_grantsOrder (al : (Nat → Int32)) (ho : (Nat → Int32)) (nu : (Nat → Int32)) : Option (Int32 × (Nat → Int32) × (Nat → Int32)) :=
  ix (0 : Int32) 5 (
  ix (1 : Int32) 5 (
  ix (2 : Int32) 5 (
  bd (f_X6_arePersons (nu (0 : Int32).toNatClampNeg) (nu (1 : Int32).toNatClampNeg) (nu (2 : Int32).toNatClampNeg) al) (fun r_4 =>
  if r_4 = (0 : Int32) then
  (some ((0 : Int32), al, ho))
  else
  (ix (0 : Int32) 5 (
  ix (1 : Int32) 5 (
  if nu (0 : Int32).toNatClampNeg = nu (1 : Int32).toNatClampNeg then
  (some ((0 : Int32), al, ho))
  else
  (ix (0 : Int32) 5 (
  ix (2 : Int32) 5 (
  ix (3 : Int32) 5 (
  ix (4 : Int32) 5 (
  bd2 (f_X6_mayGrant (nu (0 : Int32).toNatClampNeg) (nu (2 : Int32).toNatClampNeg) (nu (3 : Int32).toNatClampNeg) (nu (4 : Int32).toNatClampNeg) al ho) (fun r_17 ho_18 =>
  if r_17 = (0 : Int32) then
  (some ((0 : Int32), al, ho_18))
  else
  (ix (0 : Int32) 5 (
  ix (1 : Int32) 5 (
  ix (2 : Int32) 5 (
  ix (3 : Int32) 5 (
  ix (4 : Int32) 5 (
  bd (f_X6_lays (nu (0 : Int32).toNatClampNeg) (nu (1 : Int32).toNatClampNeg) (nu (2 : Int32).toNatClampNeg) (nu (3 : Int32).toNatClampNeg) (nu (4 : Int32).toNatClampNeg) al) (fun al_26 =>
  some ((1 : Int32), al_26, ho_18)))))))))))))))))))))
def f_X6_does (al : (Nat → Int32)) (ho : (Nat → Int32)) (od : Int32) (nu : (Nat → Int32)) : Option (Int32 × (Nat → Int32) × (Nat → Int32)) :=
  if od = (99 : Int32) then
  (ix (0 : Int32) 5 (
  ix (2 : Int32) 5 (
  ix (1 : Int32) 5 (
  bd (f_X6_cheers (nu (0 : Int32).toNatClampNeg) ((nu (2 : Int32).toNatClampNeg) * (nu (1 : Int32).toNatClampNeg)) al) (fun al_5 =>
  some ((1 : Int32), al_5, ho))))))
  else
  (if od = (103 : Int32) then
  (bd3 (f_X6_grantsOrder al ho nu) (fun r_8 al_9 ho_10 =>
  some (r_8, al_9, ho_10)))
  else
  (if od = (118 : Int32) then
  (ix (0 : Int32) 5 (
  bd (f_X6_placeOf (nu (0 : Int32).toNatClampNeg) al) (fun r_14 =>
  if r_14 = (-1 : Int32) then
  (some ((0 : Int32), al, ho))
  else
  (ix (0 : Int32) 5 (
  bd (f_X6_placeOf (nu (0 : Int32).toNatClampNeg) al) (fun r_18 =>
  bd3 (f_X6_revokes r_18 al ho) (fun r_20 al_21 ho_22 =>
  some ((1 : Int32), al_21, ho_22))))))))
  else
  (ix (0 : Int32) 5 (
  bd (f_X6_mayPass (nu (0 : Int32).toNatClampNeg) al) (fun r_25 =>
  if r_25 = (0 : Int32) then
  (some ((0 : Int32), al, ho))
  else
  (ix (0 : Int32) 5 (
  bd2 (f_X6_ticks (nu (0 : Int32).toNatClampNeg) al) (fun r_29 al_30 =>
  some ((1 : Int32), al_30, ho)))))))))
def f_X6_carryOut_L47 (txt : (Nat → Int32)) (tl : Int32) : Nat → Int32 → (Nat → Int32) → (Nat → Int32) → Int32 → Int32 → (Nat → Int32) →  Option (Int32 × (Nat → Int32) × (Nat → Int32) × Int32 × Int32 × (Nat → Int32))
  | 0, _, _, _, _, _, _ => none
  | k_ + 1, x1, al, ho, pos, od, nu =>
    if tl ≤ pos then
    (some (x1, al, ho, pos, od, nu))
    else
    (bd4 (f_X6_takesOrder txt tl pos od nu) (fun r_2 pos_3 od_4 nu_5 =>
    if r_2 = (0 : Int32) then
    (some (x1, al, ho, pos_3, od_4, nu_5))
    else
    (bd3 (f_X6_does al ho od_4 nu_5) (fun r_8 al_9 ho_10 =>
    if r_8 = (0 : Int32) then
    (some (x1, al_9, ho_10, pos_3, od_4, nu_5))
    else
    (nm (x1 + (1 : Int32)) (fun v_13 =>
    f_X6_carryOut_L47 txt tl k_ v_13 al_9 ho_10 pos_3 od_4 nu_5))))))
def f_X6_carryOut_L10 (al : (Nat → Int32)) (sv : (Nat → Int32)) (sm : Int32) (th : Int32) (ho : (Nat → Int32)) (txt : (Nat → Int32)) (tl : Int32) : Nat → Int32 → Int32 → (Nat → Int32) →  Option (Int32 × (Nat → Int32) × (Nat → Int32) × Int32 × Int32 × (Nat → Int32) × Int32 × Int32 × (Nat → Int32))
  | 0, _, _, _ => none
  | k_ + 1, pos, od, nu =>
    if tl ≤ pos then
    (bd2 (f_X6_save al sv sm) (fun sv_15 sm_16 =>
    bd6 (f_X6_carryOut_L47 txt tl FU (0 : Int32) al ho (0 : Int32) od nu) (fun y1_18 al_19 ho_20 pos_21 od_22 nu_23 =>
    some (y1_18, al_19, sv_15, sm_16, th, ho_20, pos_21, od_22, nu_23))))
    else
    (bd4 (f_X6_takesOrder txt tl pos od nu) (fun r_25 pos_26 od_27 nu_28 =>
    if r_25 = (0 : Int32) then
    (nm ((-10 : Int32) - pos_26) (fun v_31 =>
    some (v_31, al, sv, sm, th, ho, pos_26, od_27, nu_28)))
    else
    (f_X6_carryOut_L10 al sv sm th ho txt tl k_ pos_26 od_27 nu_28)))
def f_X6_carryOut (al : (Nat → Int32)) (sv : (Nat → Int32)) (sm : Int32) (th : Int32) (ho : (Nat → Int32)) (txt : (Nat → Int32)) (tl : Int32) (pos : Int32) (od : Int32) (nu : (Nat → Int32)) : Option (Int32 × (Nat → Int32) × (Nat → Int32) × Int32 × Int32 × (Nat → Int32) × Int32 × Int32 × (Nat → Int32)) :=
  f_X6_carryOut_L10 al sv sm (0 : Int32) ho txt tl FU (0 : Int32) od nu
def f_X6_undo_L35 (sv : (Nat → Int32)) (sm : Int32) : Nat → Int32 → (Nat → Int32) →  Option ((Nat → Int32))
  | 0, _, _ => none
  | k_ + 1, x1, al =>
    if (320 : Int32) ≤ x1 then
    (some al)
    else
    (ix (((320 : Int32) * sm) + x1) 1280 (
    nm (sv (((320 : Int32) * sm) + x1).toNatClampNeg) (fun v_3 =>
    ix x1 320 (
    nm (upd al x1.toNatClampNeg v_3) (fun al_5 =>
    nm (x1 + (1 : Int32)) (fun v_6 =>
    f_X6_undo_L35 sv sm k_ v_6 al_5))))))
def f_X6_undo (al : (Nat → Int32)) (sv : (Nat → Int32)) (sm : Int32) (th : Int32) : Option (Int32 × (Nat → Int32) × Int32 × Int32) :=
  if sm ≤ (0 : Int32) then
  (bd2 (f_X6_goes (0 : Int32) (1 : Int32) (1 : Int32) th) (fun r_8 th_9 =>
  if r_8 = (0 : Int32) then
  (some ((0 : Int32), al, sm, th_9))
  else
  (nm (sm - (1 : Int32)) (fun v_12 =>
  bd (f_X6_undo_L35 sv v_12 FU (0 : Int32) al) (fun al_13 =>
  some (v_12, al_13, v_12, th_9))))))
  else
  (bd2 (f_X6_goes (1 : Int32) (1 : Int32) (1 : Int32) th) (fun r_15 th_16 =>
  if r_15 = (0 : Int32) then
  (some ((0 : Int32), al, sm, th_16))
  else
  (nm (sm - (1 : Int32)) (fun v_19 =>
  bd (f_X6_undo_L35 sv v_19 FU (0 : Int32) al) (fun al_20 =>
  some (v_19, al_20, v_19, th_16))))))
def f_X6_adds (x1 : Int32) (su : Int64) : Option (Int64) :=
  nm (((31 : Int64) * su) + x1.toInt64) (fun v_1 =>
  some v_1)
def f_X6_digest_L168 (al : (Nat → Int32)) : Nat → Int32 → Int64 →  Option (Int64)
  | 0, _, _ => none
  | k_ + 1, x1, su =>
    ix (6 : Int32) 320 (
    if (3 : Int32) * (al (6 : Int32).toNatClampNeg) ≤ x1 then
    (some su)
    else
    (ix ((284 : Int32) + x1) 320 (
    bd (f_X6_adds (al ((284 : Int32) + x1).toNatClampNeg) su) (fun su_4 =>
    nm (x1 + (1 : Int32)) (fun v_6 =>
    f_X6_digest_L168 al k_ v_6 su_4)))))
def f_X6_digest_L138 (x1 : Int32) (al : (Nat → Int32)) (ho : (Nat → Int32)) : Nat → Int32 → Int64 →  Option (Int64)
  | 0, _, _ => none
  | k_ + 1, x2, su =>
    if (6 : Int32) ≤ x2 then
    (some su)
    else
    (bd (f_X6_grantValue x1 x2 al ho) (fun r_8 =>
    bd (f_X6_adds r_8 su) (fun su_10 =>
    nm (x2 + (1 : Int32)) (fun v_12 =>
    f_X6_digest_L138 x1 al ho k_ v_12 su_10))))
def f_X6_digest_L116 (al : (Nat → Int32)) (ho : (Nat → Int32)) : Nat → Int32 → Int64 →  Option (Int64)
  | 0, _, _ => none
  | k_ + 1, x1, su =>
    ix (5 : Int32) 320 (
    if al (5 : Int32).toNatClampNeg ≤ x1 then
    (some su)
    else
    (bd (f_X6_of x1 (0 : Int32) al) (fun r_15 =>
    bd (f_X6_adds r_15 su) (fun su_17 =>
    bd (f_X6_digest_L138 x1 al ho FU (0 : Int32) su_17) (fun su_19 =>
    nm (x1 + (1 : Int32)) (fun v_21 =>
    f_X6_digest_L116 al ho k_ v_21 su_19))))))
def f_X6_digest_L79 (al : (Nat → Int32)) (ho : (Nat → Int32)) : Nat → Int32 → Int64 →  Option (Int64)
  | 0, _, _ => none
  | k_ + 1, x1, su =>
    ix (4 : Int32) 320 (
    if (6 : Int32) * (al (4 : Int32).toNatClampNeg) ≤ x1 then
    (some su)
    else
    (bd (f_X6_thingValue (x1 / (6 : Int32)) (x1 - x1 / (6 : Int32) * (6 : Int32)) al ho) (fun r_24 =>
    bd (f_X6_adds r_24 su) (fun su_26 =>
    nm (x1 + (1 : Int32)) (fun v_28 =>
    f_X6_digest_L79 al ho k_ v_28 su_26)))))
def f_X6_digest_L49 (al : (Nat → Int32)) (ho : (Nat → Int32)) : Nat → Int32 → Int64 →  Option (Int64)
  | 0, _, _ => none
  | k_ + 1, x1, su =>
    if (70 : Int32) ≤ x1 then
    (some su)
    else
    (bd (f_X6_personValue (x1 / (7 : Int32)) (x1 - x1 / (7 : Int32) * (7 : Int32)) al ho) (fun r_30 =>
    bd (f_X6_adds r_30 su) (fun su_32 =>
    nm (x1 + (1 : Int32)) (fun v_34 =>
    f_X6_digest_L49 al ho k_ v_34 su_32))))
def f_X6_digest_L22 (al : (Nat → Int32)) : Nat → Int32 → (Nat → Int32) → Int64 →  Option ((Nat → Int32) × Int64)
  | 0, _, _, _ => none
  | k_ + 1, x1, ho, su =>
    if (9 : Int32) ≤ x1 then
    (some (ho, su))
    else
    (bd2 (f_X6_numberOf x1 al ho) (fun r_36 ho_37 =>
    bd (f_X6_adds r_36 su) (fun su_39 =>
    nm (x1 + (1 : Int32)) (fun v_41 =>
    f_X6_digest_L22 al k_ v_41 ho_37 su_39))))
def f_X6_digest (al : (Nat → Int32)) (sm : Int32) (th : Int32) (ho : (Nat → Int32)) (tl : Int32) (su : Int64) : Option (Int64 × Int32 × (Nat → Int32) × Int64) :=
  bd (f_X6_adds tl (3671 : Int64)) (fun su_42 =>
  bd2 (f_X6_digest_L22 al FU (0 : Int32) ho su_42) (fun ho_44 su_45 =>
  bd (f_X6_lay al ho_44) (fun ho_47 =>
  bd (f_X6_digest_L49 al ho_47 FU (0 : Int32) su_45) (fun su_49 =>
  bd (f_X6_digest_L79 al ho_47 FU (0 : Int32) su_49) (fun su_51 =>
  bd (f_X6_digest_L116 al ho_47 FU (0 : Int32) su_51) (fun su_53 =>
  bd (f_X6_digest_L168 al FU (0 : Int32) su_53) (fun su_55 =>
  bd (f_X6_adds sm su_55) (fun su_57 =>
  some (su_57, (0 : Int32), ho_47, su_57)))))))))
abbrev HS : Type := Int32 × (Nat → Int32) × Int32 × (Nat → Int32) × Int32 × (Nat → Int32) × Int32 × (Nat → Int32) × Int32 × (Nat → Int32) × Int32 × Int32 × Int32 × Int32
def bx {α β γ : Type} (m : Option (α ⊕ β)) (kx : α → Option γ) (k : β → Option γ) : Option γ := match m with
  | none => none
  | some (.inl a) => kx a
  | some (.inr b) => k b
def nz {γ : Type} (r : UInt64) (k : Option γ) : Option γ := if r &&& 0x7fffffffffffffff ≤ 0x7ff0000000000000 then k else none
def f_X1_count (cn : Int32) : Option (Int32) :=
  some cn
def hk_put (cn' : Int32) (ro' j : Nat) (Q : Nat → HS) (rP2 : Int32) (fP2 : (Nat → Int32)) (rT2 : Int32) (fT2 : (Nat → Int32)) (rG2 : Int32) (fG2 : (Nat → Int32)) (rL2 : Int32) (fL2 : (Nat → Int32)) (rH2 : Int32) (fH2 : (Nat → Int32)) (gi2 : Int32) (di2 : Int32) (re2 : Int32) (ti2 : Int32) : Option (Int32 × Nat × (Nat → HS)) :=
  bd14 (f_X2_takeOver (Q j).1 (Q j).2.1 (Q j).2.2.1 (Q j).2.2.2.1 (Q j).2.2.2.2.1 (Q j).2.2.2.2.2.1 (Q j).2.2.2.2.2.2.1 (Q j).2.2.2.2.2.2.2.1 (Q j).2.2.2.2.2.2.2.2.1 (Q j).2.2.2.2.2.2.2.2.2.1 (Q j).2.2.2.2.2.2.2.2.2.2.1 (Q j).2.2.2.2.2.2.2.2.2.2.2.1 (Q j).2.2.2.2.2.2.2.2.2.2.2.2.1 (Q j).2.2.2.2.2.2.2.2.2.2.2.2.2 rP2 fP2 rT2 fT2 rG2 fG2 rL2 fL2 rH2 fH2 gi2 di2 re2 ti2) (fun a0 a1 a2 a3 a4 a5 a6 a7 a8 a9 a10 a11 a12 a13 => some (cn', ro', fun i => if i = j then (a0, a1, a2, a3, a4, a5, a6, a7, a8, a9, a10, a11, a12, a13) else Q i))
def hk_gb (cn' : Int32) (j : Nat) (Q : Nat → HS) (rP2 : Int32) (fP2 : (Nat → Int32)) (rT2 : Int32) (fT2 : (Nat → Int32)) (rG2 : Int32) (fG2 : (Nat → Int32)) (rL2 : Int32) (fL2 : (Nat → Int32)) (rH2 : Int32) (fH2 : (Nat → Int32)) (gi2 : Int32) (di2 : Int32) (re2 : Int32) (ti2 : Int32) : Option (Int32 × Int32 × (Nat → Int32) × Int32 × (Nat → Int32) × Int32 × (Nat → Int32) × Int32 × (Nat → Int32) × Int32 × (Nat → Int32) × Int32 × Int32 × Int32 × Int32) :=
  bd14 (f_X2_takeOver rP2 fP2 rT2 fT2 rG2 fG2 rL2 fL2 rH2 fH2 gi2 di2 re2 ti2 (Q j).1 (Q j).2.1 (Q j).2.2.1 (Q j).2.2.2.1 (Q j).2.2.2.2.1 (Q j).2.2.2.2.2.1 (Q j).2.2.2.2.2.2.1 (Q j).2.2.2.2.2.2.2.1 (Q j).2.2.2.2.2.2.2.2.1 (Q j).2.2.2.2.2.2.2.2.2.1 (Q j).2.2.2.2.2.2.2.2.2.2.1 (Q j).2.2.2.2.2.2.2.2.2.2.2.1 (Q j).2.2.2.2.2.2.2.2.2.2.2.2.1 (Q j).2.2.2.2.2.2.2.2.2.2.2.2.2) (fun a0 a1 a2 a3 a4 a5 a6 a7 a8 a9 a10 a11 a12 a13 => some (cn', a0, a1, a2, a3, a4, a5, a6, a7, a8, a9, a10, a11, a12, a13))
def f_X1_keep (cn : Int32) (ro : Nat) (Q : Nat → HS) (rP2 : Int32) (fP2 : (Nat → Int32)) (rT2 : Int32) (fT2 : (Nat → Int32)) (rG2 : Int32) (fG2 : (Nat → Int32)) (rL2 : Int32) (fL2 : (Nat → Int32)) (rH2 : Int32) (fH2 : (Nat → Int32)) (gi2 : Int32) (di2 : Int32) (re2 : Int32) (ti2 : Int32) : Option (Int32 × Nat × (Nat → HS)) :=
  if 4 ≤ ro then none else if cn = (0 : Int32) then hk_put 1 ro ((0 + ro) % 4) Q rP2 fP2 rT2 fT2 rG2 fG2 rL2 fL2 rH2 fH2 gi2 di2 re2 ti2 else if cn = (1 : Int32) then hk_put 2 ro ((1 + ro) % 4) Q rP2 fP2 rT2 fT2 rG2 fG2 rL2 fL2 rH2 fH2 gi2 di2 re2 ti2 else if cn = (2 : Int32) then hk_put 3 ro ((2 + ro) % 4) Q rP2 fP2 rT2 fT2 rG2 fG2 rL2 fL2 rH2 fH2 gi2 di2 re2 ti2 else if cn = (3 : Int32) then hk_put 4 ro ((3 + ro) % 4) Q rP2 fP2 rT2 fT2 rG2 fG2 rL2 fL2 rH2 fH2 gi2 di2 re2 ti2 else if cn = (4 : Int32) then hk_put 4 ((ro + 1) % 4) ro Q rP2 fP2 rT2 fT2 rG2 fG2 rL2 fL2 rH2 fH2 gi2 di2 re2 ti2 else none
def f_X1_giveBack (cn : Int32) (ro : Nat) (Q : Nat → HS) (rP2 : Int32) (fP2 : (Nat → Int32)) (rT2 : Int32) (fT2 : (Nat → Int32)) (rG2 : Int32) (fG2 : (Nat → Int32)) (rL2 : Int32) (fL2 : (Nat → Int32)) (rH2 : Int32) (fH2 : (Nat → Int32)) (gi2 : Int32) (di2 : Int32) (re2 : Int32) (ti2 : Int32) : Option (Int32 × Int32 × (Nat → Int32) × Int32 × (Nat → Int32) × Int32 × (Nat → Int32) × Int32 × (Nat → Int32) × Int32 × (Nat → Int32) × Int32 × Int32 × Int32 × Int32) :=
  if 4 ≤ ro then none else if cn = (1 : Int32) then hk_gb 0 ((0 + ro) % 4) Q rP2 fP2 rT2 fT2 rG2 fG2 rL2 fL2 rH2 fH2 gi2 di2 re2 ti2 else if cn = (2 : Int32) then hk_gb 1 ((1 + ro) % 4) Q rP2 fP2 rT2 fT2 rG2 fG2 rL2 fL2 rH2 fH2 gi2 di2 re2 ti2 else if cn = (3 : Int32) then hk_gb 2 ((2 + ro) % 4) Q rP2 fP2 rT2 fT2 rG2 fG2 rL2 fL2 rH2 fH2 gi2 di2 re2 ti2 else if cn = (4 : Int32) then hk_gb 3 ((3 + ro) % 4) Q rP2 fP2 rT2 fT2 rG2 fG2 rL2 fL2 rH2 fH2 gi2 di2 re2 ti2 else none
def f_X6_meanChain_L33 (fr : (Nat → Int32)) : Nat → Int32 → Int32 → Int32 →  Option (Int32 × Int32)
  | 0, _, _, _ => none
  | k_ + 1, x1, x2, x4 =>
    if (10 : Int32) ≤ x4 then
    (some (x1, x2))
    else
    (ix x4 10 (
    if fr x4.toNatClampNeg ≤ (0 : Int32) then
    (nm (x1 + (0 : Int32)) (fun v_4 =>
    ix x4 10 (
    if fr x4.toNatClampNeg < (0 : Int32) then
    (nm (x2 + (0 : Int32)) (fun v_7 =>
    nm (x4 + (1 : Int32)) (fun v_8 =>
    f_X6_meanChain_L33 fr k_ v_4 v_7 v_8)))
    else
    (nm (x2 + (1 : Int32)) (fun v_9 =>
    nm (x4 + (1 : Int32)) (fun v_10 =>
    f_X6_meanChain_L33 fr k_ v_4 v_9 v_10))))))
    else
    (ix x4 10 (
    nm (x1 + (fr x4.toNatClampNeg)) (fun v_12 =>
    ix x4 10 (
    if fr x4.toNatClampNeg < (0 : Int32) then
    (nm (x2 + (0 : Int32)) (fun v_15 =>
    nm (x4 + (1 : Int32)) (fun v_16 =>
    f_X6_meanChain_L33 fr k_ v_12 v_15 v_16)))
    else
    (nm (x2 + (1 : Int32)) (fun v_17 =>
    nm (x4 + (1 : Int32)) (fun v_18 =>
    f_X6_meanChain_L33 fr k_ v_12 v_17 v_18)))))))))
def f_X6_meanChain_L15 (al : (Nat → Int32)) (ho : (Nat → Int32)) : Nat → Int32 → Int32 → Int32 → (Nat → Int32) →  Option (Int32 × Int32 × (Nat → Int32))
  | 0, _, _, _, _ => none
  | k_ + 1, x1, x2, x3, fr =>
    ix (4 : Int32) 320 (
    if al (4 : Int32).toNatClampNeg ≤ x3 then
    (some (x1, x2, fr))
    else
    (bd (f_X6_measure x3 al ho fr) (fun fr_21 =>
    bd2 (f_X6_meanChain_L33 fr_21 FU x1 x2 (0 : Int32)) (fun y1_23 y2_24 =>
    nm (x3 + (1 : Int32)) (fun v_26 =>
    f_X6_meanChain_L15 al ho k_ y1_23 y2_24 v_26 fr_21)))))
def f_X6_meanChain (al : (Nat → Int32)) (th : Int32) (ho : (Nat → Int32)) (fr : (Nat → Int32)) : Option (UInt64 × Int32 × (Nat → Int32) × (Nat → Int32)) :=
  bd (f_X6_lay al ho) (fun ho_27 =>
  bd3 (f_X6_meanChain_L15 al ho_27 FU (0 : Int32) (0 : Int32) (0 : Int32) fr) (fun y1_29 y2_30 fr_31 =>
  if y2_30 = (0 : Int32) then
  (some (FP.dconst0, (0 : Int32), ho_27, fr_31))
  else
  (nz (FP.ddiv (FP.i2d y1_29) (FP.i2d y2_30)) (
  some (FP.ddiv (FP.i2d y1_29) (FP.i2d y2_30), (0 : Int32), ho_27, fr_31)))))
def f_X5_requirePerson (x0 : Int32) : Option ((String) ⊕ (Unit)) :=
  bd (f_X5_isPerson x0) (fun r_1 =>
  if r_1 = (0 : Int32) then
  (some (.inl ("java/lang/IndexOutOfBoundsException")))
  else
  (some (.inr ())))
def f_X5_requireRange (x0 : Int32) (x1 : Int32) (x2 : Int32) : Option ((String) ⊕ (Unit)) :=
  bd (f_X5_isBetween x0 x1 x2) (fun r_1 =>
  if r_1 = (0 : Int32) then
  (some (.inl ("java/lang/IllegalArgumentException")))
  else
  (some (.inr ())))
def f_X5_requireMask (x0 : Int32) : Option ((String) ⊕ (Unit)) :=
  bx (f_X5_requireRange x0 (0 : Int32) (7 : Int32)) (fun E_3 => some (.inl E_3)) (fun u_2 =>
  some (.inr ()))
def f_X5_requireFit (x0 : Int32) : Option ((String) ⊕ (Unit)) :=
  if x0 = (1 : Int32) then
  (some (.inl ("java/lang/IndexOutOfBoundsException")))
  else
  (if x0 = (2 : Int32) then
  (some (.inl ("java/lang/IllegalArgumentException")))
  else
  (some (.inr ())))
def f_X5_requireThing (x1 : Int32) (rT : Int32) : Option ((String) ⊕ (Unit)) :=
  bd (f_X3_has x1 rT) (fun r_1 =>
  if r_1 = (0 : Int32) then
  (some (.inl ("java/lang/IndexOutOfBoundsException")))
  else
  (some (.inr ())))
def f_X5_requireGrant (x1 : Int32) (rG : Int32) (fG : (Nat → Int32)) : Option ((String) ⊕ (Int32)) :=
  bd (f_X2_placeOf x1 rG fG) (fun r_1 =>
  if r_1 = (-1 : Int32) then
  (some (.inl ("java/util/NoSuchElementException")))
  else
  (some (.inr r_1)))
def f_X5_addThing (x1 : Int32) (x2 : Int32) (rP : Int32) (fP : (Nat → Int32)) (rT : Int32) (fT : (Nat → Int32)) (rG : Int32) (fG : (Nat → Int32)) (rL : Int32) (fL : (Nat → Int32)) (rH : Int32) (fH : (Nat → Int32)) (gi : Int32) (di : Int32) (re : Int32) (ti : Int32) (cn : Int32) (ro : Nat) (Qh : (Nat → HS)) : Option ((String × Int32 × (Nat → Int32) × Int32 × (Nat → Int32) × Int32 × Nat × (Nat → HS)) ⊕ (Int32 × Int32 × (Nat → Int32) × Int32 × (Nat → Int32) × Int32 × Nat × (Nat → HS))) :=
  bx (f_X5_requirePerson x1) (fun E_3 => some (.inl (E_3, rT, fT, rH, fH, cn, ro, Qh))) (fun u_2 =>
  bx (f_X5_requireMask x2) (fun E_6 => some (.inl (E_6, rT, fT, rH, fH, cn, ro, Qh))) (fun u_5 =>
  bd (f_X3_isFull (8 : Int32) rT) (fun r_7 =>
  if r_7 = (0 : Int32) then
  (bd3 (f_X1_keep cn ro Qh rP fP rT fT rG fG rL fL rH fH gi di re ti) (fun cn_10 ro_11 Qh_12 =>
  bd5 (f_X2_takeIn x1 x2 rT fT rG fG rH fH) (fun r_14 rT_15 fT_16 rH_17 fH_18 =>
  some (.inr (r_14, rT_15, fT_16, rH_17, fH_18, cn_10, ro_11, Qh_12)))))
  else
  (some (.inl ("java/lang/IllegalStateException", rT, fT, rH, fH, cn, ro, Qh))))))
def f_X5_setMask (x1 : Int32) (x2 : Int32) (rP : Int32) (fP : (Nat → Int32)) (rT : Int32) (fT : (Nat → Int32)) (rG : Int32) (fG : (Nat → Int32)) (rL : Int32) (fL : (Nat → Int32)) (rH : Int32) (fH : (Nat → Int32)) (gi : Int32) (di : Int32) (re : Int32) (ti : Int32) (cn : Int32) (ro : Nat) (Qh : (Nat → HS)) : Option ((String × (Nat → Int32) × (Nat → Int32) × Int32 × Nat × (Nat → HS)) ⊕ (Int32 × (Nat → Int32) × (Nat → Int32) × Int32 × Nat × (Nat → HS))) :=
  bx (f_X5_requireThing x1 rT) (fun E_3 => some (.inl (E_3, fT, fH, cn, ro, Qh))) (fun u_2 =>
  bx (f_X5_requireMask x2) (fun E_6 => some (.inl (E_6, fT, fH, cn, ro, Qh))) (fun u_5 =>
  bd3 (f_X1_keep cn ro Qh rP fP rT fT rG fG rL fL rH fH gi di re ti) (fun cn_7 ro_8 Qh_9 =>
  bd3 (f_X2_changeThing x1 (1 : Int32) x2 rT fT rG fG rH fH) (fun r_11 fT_12 fH_13 =>
  some (.inr (r_11, fT_12, fH_13, cn_7, ro_8, Qh_9))))))
def f_X5_setBase (x1 : Int32) (x2 : Int32) (rP : Int32) (fP : (Nat → Int32)) (rT : Int32) (fT : (Nat → Int32)) (rG : Int32) (fG : (Nat → Int32)) (rL : Int32) (fL : (Nat → Int32)) (rH : Int32) (fH : (Nat → Int32)) (gi : Int32) (di : Int32) (re : Int32) (ti : Int32) (cn : Int32) (ro : Nat) (Qh : (Nat → HS)) : Option ((String × (Nat → Int32) × Int32 × Nat × (Nat → HS)) ⊕ (Int32 × (Nat → Int32) × Int32 × Nat × (Nat → HS))) :=
  bx (f_X5_requirePerson x1) (fun E_3 => some (.inl (E_3, fP, cn, ro, Qh))) (fun u_2 =>
  bx (f_X5_requireRange x2 (0 : Int32) (100 : Int32)) (fun E_6 => some (.inl (E_6, fP, cn, ro, Qh))) (fun u_5 =>
  bd3 (f_X1_keep cn ro Qh rP fP rT fT rG fG rL fL rH fH gi di re ti) (fun cn_7 ro_8 Qh_9 =>
  bd (f_X3_at (2 : Int32) 20 x1 (1 : Int32) rP fP) (fun r_11 =>
  bd (f_X3_put (2 : Int32) 20 x1 (1 : Int32) x2 rP fP) (fun fP_13 =>
  some (.inr (r_11, fP_13, cn_7, ro_8, Qh_9)))))))
def f_X5_give (x1 : Int32) (x2 : Int32) (rP : Int32) (fP : (Nat → Int32)) (rT : Int32) (fT : (Nat → Int32)) (rG : Int32) (fG : (Nat → Int32)) (rL : Int32) (fL : (Nat → Int32)) (rH : Int32) (fH : (Nat → Int32)) (gi : Int32) (di : Int32) (re : Int32) (ti : Int32) (cn : Int32) (ro : Nat) (Qh : (Nat → HS)) : Option ((String × (Nat → Int32) × (Nat → Int32) × Int32 × Nat × (Nat → HS)) ⊕ (Int32 × (Nat → Int32) × (Nat → Int32) × Int32 × Nat × (Nat → HS))) :=
  bx (f_X5_requirePerson x2) (fun E_3 => some (.inl (E_3, fT, fH, cn, ro, Qh))) (fun u_2 =>
  bx (f_X5_requireThing x1 rT) (fun E_6 => some (.inl (E_6, fT, fH, cn, ro, Qh))) (fun u_5 =>
  bd3 (f_X1_keep cn ro Qh rP fP rT fT rG fG rL fL rH fH gi di re ti) (fun cn_7 ro_8 Qh_9 =>
  bd3 (f_X2_changeThing x1 (0 : Int32) x2 rT fT rG fG rH fH) (fun r_11 fT_12 fH_13 =>
  some (.inr (r_11, fT_12, fH_13, cn_7, ro_8, Qh_9))))))
def f_X5_grant (x1 : Int32) (x2 : Int32) (x3 : Int32) (x4 : Int32) (x5 : Int32) (rP : Int32) (fP : (Nat → Int32)) (rT : Int32) (fT : (Nat → Int32)) (rG : Int32) (fG : (Nat → Int32)) (rL : Int32) (fL : (Nat → Int32)) (rH : Int32) (fH : (Nat → Int32)) (gi : Int32) (di : Int32) (re : Int32) (ti : Int32) (cn : Int32) (ro : Nat) (Qh : (Nat → HS)) : Option ((String × Int32 × (Nat → Int32) × (Nat → Int32) × Int32 × Int32 × Nat × (Nat → HS)) ⊕ (Int32 × Int32 × (Nat → Int32) × (Nat → Int32) × Int32 × Int32 × Nat × (Nat → HS))) :=
  bd (f_X2_faultOfGrant x1 x2 x3 x4 x5 rP fP rT rG rH fH) (fun r_1 =>
  bx (f_X5_requireFit r_1) (fun E_5 => some (.inl (E_5, rG, fG, fH, gi, cn, ro, Qh))) (fun u_4 =>
  if r_1 = (3 : Int32) then
  (some (.inl ("java/lang/IllegalStateException", rG, fG, fH, gi, cn, ro, Qh)))
  else
  (bd3 (f_X1_keep cn ro Qh rP fP rT fT rG fG rL fL rH fH gi di re ti) (fun cn_7 ro_8 Qh_9 =>
  bd5 (f_X2_lend x1 x2 x3 x4 x5 rT fT rG fG rH fH gi) (fun r_11 rG_12 fG_13 fH_14 gi_15 =>
  some (.inr (r_11, rG_12, fG_13, fH_14, gi_15, cn_7, ro_8, Qh_9)))))))
def f_X5_revoke (x1 : Int32) (rP : Int32) (fP : (Nat → Int32)) (rT : Int32) (fT : (Nat → Int32)) (rG : Int32) (fG : (Nat → Int32)) (rL : Int32) (fL : (Nat → Int32)) (rH : Int32) (fH : (Nat → Int32)) (gi : Int32) (di : Int32) (re : Int32) (ti : Int32) (cn : Int32) (ro : Nat) (Qh : (Nat → HS)) : Option ((String × Int32 × (Nat → Int32) × (Nat → Int32) × Int32 × Int32 × Nat × (Nat → HS)) ⊕ (Int32 × Int32 × (Nat → Int32) × (Nat → Int32) × Int32 × Int32 × Nat × (Nat → HS))) :=
  bx (f_X5_requireGrant x1 rG fG) (fun E_3 => some (.inl (E_3, rG, fG, fH, re, cn, ro, Qh))) (fun r_1 =>
  bd3 (f_X1_keep cn ro Qh rP fP rT fT rG fG rL fL rH fH gi di re ti) (fun cn_4 ro_5 Qh_6 =>
  bd5 (f_X2_takeBack r_1 rT fT rG fG rH fH re) (fun r_8 rG_9 fG_10 fH_11 re_12 =>
  some (.inr (r_8, rG_9, fG_10, fH_11, re_12, cn_4, ro_5, Qh_6)))))
def f_X5_cheer (x1 : Int32) (x2 : Int32) (rP : Int32) (fP : (Nat → Int32)) (rT : Int32) (fT : (Nat → Int32)) (rG : Int32) (fG : (Nat → Int32)) (rL : Int32) (fL : (Nat → Int32)) (rH : Int32) (fH : (Nat → Int32)) (gi : Int32) (di : Int32) (re : Int32) (ti : Int32) (cn : Int32) (ro : Nat) (Qh : (Nat → HS)) : Option ((String × (Nat → Int32) × Int32 × (Nat → Int32) × Int32 × (Nat → Int32) × (Nat → Int32) × Int32 × Int32 × Nat × (Nat → HS)) ⊕ (Int32 × (Nat → Int32) × Int32 × (Nat → Int32) × Int32 × (Nat → Int32) × (Nat → Int32) × Int32 × Int32 × Nat × (Nat → HS))) :=
  bx (f_X5_requirePerson x1) (fun E_3 => some (.inl (E_3, fP, rG, fG, rL, fL, fH, di, cn, ro, Qh))) (fun u_2 =>
  bx (f_X5_requireRange x2 (-100 : Int32) (100 : Int32)) (fun E_6 => some (.inl (E_6, fP, rG, fG, rL, fL, fH, di, cn, ro, Qh))) (fun u_5 =>
  bd3 (f_X1_keep cn ro Qh rP fP rT fT rG fG rL fL rH fH gi di re ti) (fun cn_7 ro_8 Qh_9 =>
  bd8 (f_X2_changeMood x1 x2 rP fP rT fT rG fG rL fL rH fH di ti) (fun r_11 fP_12 rG_13 fG_14 rL_15 fL_16 fH_17 di_18 =>
  some (.inr (r_11, fP_12, rG_13, fG_14, rL_15, fL_16, fH_17, di_18, cn_7, ro_8, Qh_9))))))
def f_X5_pass (x1 : Int32) (rP : Int32) (fP : (Nat → Int32)) (rT : Int32) (fT : (Nat → Int32)) (rG : Int32) (fG : (Nat → Int32)) (rL : Int32) (fL : (Nat → Int32)) (rH : Int32) (fH : (Nat → Int32)) (gi : Int32) (di : Int32) (re : Int32) (ti : Int32) (cn : Int32) (ro : Nat) (Qh : (Nat → HS)) : Option ((String × (Nat → Int32) × Int32 × (Nat → Int32) × Int32 × (Nat → Int32) × (Nat → Int32) × Int32 × Int32 × Int32 × Nat × (Nat → HS)) ⊕ (Int32 × (Nat → Int32) × Int32 × (Nat → Int32) × Int32 × (Nat → Int32) × (Nat → Int32) × Int32 × Int32 × Int32 × Nat × (Nat → HS))) :=
  bx (f_X5_requireRange x1 (1 : Int32) (100 : Int32)) (fun E_3 => some (.inl (E_3, fP, rG, fG, rL, fL, fH, di, ti, cn, ro, Qh))) (fun u_2 =>
  bd (f_X2_hasTimeFor x1 ti) (fun r_4 =>
  if r_4 = (0 : Int32) then
  (some (.inl ("java/lang/IllegalStateException", fP, rG, fG, rL, fL, fH, di, ti, cn, ro, Qh)))
  else
  (bd3 (f_X1_keep cn ro Qh rP fP rT fT rG fG rL fL rH fH gi di re ti) (fun cn_7 ro_8 Qh_9 =>
  bd9 (f_X2_letPass x1 rP fP rT fT rG fG rL fL rH fH di ti) (fun r_11 fP_12 rG_13 fG_14 rL_15 fL_16 fH_17 di_18 ti_19 =>
  some (.inr (r_11, fP_12, rG_13, fG_14, rL_15, fL_16, fH_17, di_18, ti_19, cn_7, ro_8, Qh_9)))))))
def f_X5_held (x1 : Int32) (x2 : Int32) (rT : Int32) (rH : Int32) (fH : (Nat → Int32)) : Option ((String) ⊕ (Int32)) :=
  bx (f_X5_requirePerson x1) (fun E_3 => some (.inl E_3)) (fun u_2 =>
  bx (f_X5_requireThing x2 rT) (fun E_6 => some (.inl E_6)) (fun u_5 =>
  bd (f_X2_rightsOf x1 x2 rH fH) (fun r_7 =>
  some (.inr r_7))))
def f_X5_person (x1 : Int32) (x2 : Int32) (rP : Int32) (fP : (Nat → Int32)) (rT : Int32) (fT : (Nat → Int32)) (rG : Int32) (fG : (Nat → Int32)) (rH : Int32) (fH : (Nat → Int32)) : Option ((String) ⊕ (Int32)) :=
  bx (f_X5_requirePerson x1) (fun E_3 => some (.inl E_3)) (fun u_2 =>
  bx (f_X5_requireRange x2 (0 : Int32) (6 : Int32)) (fun E_6 => some (.inl E_6)) (fun u_5 =>
  bd (f_X2_aboutPerson x1 x2 rP fP rT fT rG fG rH fH) (fun r_7 =>
  some (.inr r_7))))
def f_X5_thing (x1 : Int32) (x2 : Int32) (rT : Int32) (fT : (Nat → Int32)) (rG : Int32) (fG : (Nat → Int32)) (rH : Int32) (fH : (Nat → Int32)) : Option ((String) ⊕ (Int32)) :=
  bx (f_X5_requireThing x1 rT) (fun E_3 => some (.inl E_3)) (fun u_2 =>
  bx (f_X5_requireRange x2 (0 : Int32) (5 : Int32)) (fun E_6 => some (.inl E_6)) (fun u_5 =>
  bd (f_X2_aboutThing x1 x2 rT fT rG fG rH fH) (fun r_7 =>
  some (.inr r_7))))
def f_X5_grantOf (x1 : Int32) (x2 : Int32) (rT : Int32) (fT : (Nat → Int32)) (rG : Int32) (fG : (Nat → Int32)) (rH : Int32) (fH : (Nat → Int32)) : Option ((String) ⊕ (Int32)) :=
  bx (f_X5_requireGrant x1 rG fG) (fun E_3 => some (.inl E_3)) (fun r_1 =>
  bx (f_X5_requireRange x2 (0 : Int32) (5 : Int32)) (fun E_6 => some (.inl E_6)) (fun u_5 =>
  bd (f_X2_aboutGrant r_1 x2 rT fT rG fG rH fH) (fun r_7 =>
  some (.inr r_7))))
def f_X5_chain (x1 : Int32) (x2 : Int32) (rT : Int32) (fT : (Nat → Int32)) (rG : Int32) (fG : (Nat → Int32)) (rH : Int32) (fH : (Nat → Int32)) (rS : Int32) (fS : (Nat → Int32)) : Option ((String × (Nat → Int32)) ⊕ (Int32 × (Nat → Int32))) :=
  bx (f_X5_requirePerson x1) (fun E_3 => some (.inl (E_3, fS))) (fun u_2 =>
  bx (f_X5_requireThing x2 rT) (fun E_6 => some (.inl (E_6, fS))) (fun u_5 =>
  bd (f_X0_measure x2 rS fS rT fT rG fG rH fH) (fun fS_7 =>
  bd (f_X0_stepsTo x1 rS fS_7) (fun r_9 =>
  some (.inr (r_9, fS_7))))))
def f_X5_link (x1 : Int32) (x2 : Int32) (x3 : Int32) (rT : Int32) (fT : (Nat → Int32)) (rG : Int32) (fG : (Nat → Int32)) (rH : Int32) (fH : (Nat → Int32)) (rS : Int32) (fS : (Nat → Int32)) : Option ((String × (Nat → Int32)) ⊕ (Int32 × (Nat → Int32))) :=
  bx (f_X5_requirePerson x1) (fun E_3 => some (.inl (E_3, fS))) (fun u_2 =>
  bx (f_X5_requireThing x2 rT) (fun E_6 => some (.inl (E_6, fS))) (fun u_5 =>
  bd (f_X0_measure x2 rS fS rT fT rG fG rH fH) (fun fS_7 =>
  if x3 < (0 : Int32) then
  (some (.inl ("java/lang/IndexOutOfBoundsException", fS_7)))
  else
  (bd (f_X0_stepsTo x1 rS fS_7) (fun r_10 =>
  if x3 < r_10 then
  (bd (f_X0_numberAt x1 x2 x3 rS fS_7 rT fT rG fG rH fH) (fun r_13 =>
  some (.inr (r_13, fS_7))))
  else
  (some (.inl ("java/lang/IndexOutOfBoundsException", fS_7))))))))
def f_X5_why (x1 : Int32) (x2 : Int32) (x3 : Int32) (rT : Int32) (fT : (Nat → Int32)) (rG : Int32) (fG : (Nat → Int32)) (rH : Int32) (fH : (Nat → Int32)) : Option ((String) ⊕ (Int32)) :=
  bx (f_X5_requirePerson x1) (fun E_3 => some (.inl E_3)) (fun u_2 =>
  bx (f_X5_requireThing x2 rT) (fun E_6 => some (.inl E_6)) (fun u_5 =>
  if x3 = (1 : Int32) then
  (bd (f_X2_reasonAgainst x1 x2 x3 rT fT rG fG rH fH) (fun r_8 =>
  some (.inr r_8)))
  else
  (if x3 = (2 : Int32) then
  (bd (f_X2_reasonAgainst x1 x2 x3 rT fT rG fG rH fH) (fun r_11 =>
  some (.inr r_11)))
  else
  (if x3 = (4 : Int32) then
  (bd (f_X2_reasonAgainst x1 x2 x3 rT fT rG fG rH fH) (fun r_14 =>
  some (.inr r_14)))
  else
  (some (.inl ("java/lang/IllegalArgumentException")))))))
def f_X5_value (x1 : Int32) (rT : Int32) (fT : (Nat → Int32)) (rG : Int32) (fG : (Nat → Int32)) (rL : Int32) (rH : Int32) (fH : (Nat → Int32)) (gi : Int32) (di : Int32) (re : Int32) (ti : Int32) : Option ((String) ⊕ (Int32)) :=
  bx (f_X5_requireRange x1 (0 : Int32) (8 : Int32)) (fun E_3 => some (.inl E_3)) (fun u_2 =>
  bd (f_X2_aboutHouse x1 rT fT rG fG rL rH fH gi di re ti) (fun r_4 =>
  some (.inr r_4)))
def f_X5_entry (x1 : Int32) (x2 : Int32) (rL : Int32) (fL : (Nat → Int32)) : Option ((String) ⊕ (Int32)) :=
  if x1 < (0 : Int32) then
  (some (.inl ("java/lang/IndexOutOfBoundsException")))
  else
  (bd (f_X3_rows rL) (fun r_2 =>
  if x1 < r_2 then
  (bx (f_X5_requireRange x2 (0 : Int32) (2 : Int32)) (fun E_7 => some (.inl E_7)) (fun u_6 =>
  bd (f_X2_aboutEntry x1 x2 rL fL) (fun r_8 =>
  some (.inr r_8))))
  else
  (some (.inl ("java/lang/IndexOutOfBoundsException")))))
def f_X5_pairsLostBy (x1 : Int32) (rP : Int32) (fP : (Nat → Int32)) (rT : Int32) (fT : (Nat → Int32)) (rG : Int32) (fG : (Nat → Int32)) (rL : Int32) (fL : (Nat → Int32)) (rH : Int32) (fH : (Nat → Int32)) (gi : Int32) (di : Int32) (re : Int32) (ti : Int32) (rPT : Int32) (fPT : (Nat → Int32)) (rTT : Int32) (fTT : (Nat → Int32)) (rGT : Int32) (fGT : (Nat → Int32)) (rLT : Int32) (fLT : (Nat → Int32)) (rHT : Int32) (fHT : (Nat → Int32)) (giT : Int32) (diT : Int32) (reT : Int32) (tiT : Int32) : Option (Int32 × Int32 × (Nat → Int32) × Int32 × (Nat → Int32) × Int32 × (Nat → Int32) × Int32 × (Nat → Int32) × Int32 × (Nat → Int32) × Int32 × Int32 × Int32 × Int32) :=
  bd14 (f_X2_takeOver rPT fPT rTT fTT rGT fGT rLT fLT rHT fHT giT diT reT tiT rP fP rT fT rG fG rL fL rH fH gi di re ti) (fun rPT_1 fPT_2 rTT_3 fTT_4 rGT_5 fGT_6 rLT_7 fLT_8 rHT_9 fHT_10 giT_11 diT_12 reT_13 tiT_14 =>
  bd8 (f_X2_changeMood x1 (-100 : Int32) rPT_1 fPT_2 rTT_3 fTT_4 rGT_5 fGT_6 rLT_7 fLT_8 rHT_9 fHT_10 diT_12 tiT_14) (fun r_16 fPT_17 rGT_18 fGT_19 rLT_20 fLT_21 fHT_22 diT_23 =>
  bd (f_X2_countPairs rT rH fH) (fun r_25 =>
  bd (f_X2_countPairs rTT_3 rHT_9 fHT_22) (fun r_27 =>
  nm (r_25 - r_27) (fun v_29 =>
  some (v_29, rPT_1, fPT_17, rTT_3, fTT_4, rGT_18, fGT_19, rLT_20, fLT_21, rHT_9, fHT_22, giT_11, diT_23, reT_13, tiT_14))))))
def f_X5_lostBy (x1 : Int32) (rP : Int32) (fP : (Nat → Int32)) (rT : Int32) (fT : (Nat → Int32)) (rG : Int32) (fG : (Nat → Int32)) (rL : Int32) (fL : (Nat → Int32)) (rH : Int32) (fH : (Nat → Int32)) (gi : Int32) (di : Int32) (re : Int32) (ti : Int32) (rPT : Int32) (fPT : (Nat → Int32)) (rTT : Int32) (fTT : (Nat → Int32)) (rGT : Int32) (fGT : (Nat → Int32)) (rLT : Int32) (fLT : (Nat → Int32)) (rHT : Int32) (fHT : (Nat → Int32)) (giT : Int32) (diT : Int32) (reT : Int32) (tiT : Int32) : Option ((String × Int32 × (Nat → Int32) × Int32 × (Nat → Int32) × Int32 × (Nat → Int32) × Int32 × (Nat → Int32) × Int32 × (Nat → Int32) × Int32 × Int32 × Int32 × Int32) ⊕ (Int32 × Int32 × (Nat → Int32) × Int32 × (Nat → Int32) × Int32 × (Nat → Int32) × Int32 × (Nat → Int32) × Int32 × (Nat → Int32) × Int32 × Int32 × Int32 × Int32)) :=
  bx (f_X5_requirePerson x1) (fun E_3 => some (.inl (E_3, rPT, fPT, rTT, fTT, rGT, fGT, rLT, fLT, rHT, fHT, giT, diT, reT, tiT))) (fun u_2 =>
  bd15 (f_X5_pairsLostBy x1 rP fP rT fT rG fG rL fL rH fH gi di re ti rPT fPT rTT fTT rGT fGT rLT fLT rHT fHT giT diT reT tiT) (fun r_4 rPT_5 fPT_6 rTT_7 fTT_8 rGT_9 fGT_10 rLT_11 fLT_12 rHT_13 fHT_14 giT_15 diT_16 reT_17 tiT_18 =>
  some (.inr (r_4, rPT_5, fPT_6, rTT_7, fTT_8, rGT_9, fGT_10, rLT_11, fLT_12, rHT_13, fHT_14, giT_15, diT_16, reT_17, tiT_18))))
def f_X5_mostNeeded_L6 (rP : Int32) (fP : (Nat → Int32)) (rT : Int32) (fT : (Nat → Int32)) (rG : Int32) (fG : (Nat → Int32)) (rL : Int32) (fL : (Nat → Int32)) (rH : Int32) (fH : (Nat → Int32)) (gi : Int32) (di : Int32) (re : Int32) (ti : Int32) : Nat → Int32 → Int32 → Int32 → Int32 → (Nat → Int32) → Int32 → (Nat → Int32) → Int32 → (Nat → Int32) → Int32 → (Nat → Int32) → Int32 → (Nat → Int32) → Int32 → Int32 → Int32 → Int32 →  Option (Int32 × Int32 × (Nat → Int32) × Int32 × (Nat → Int32) × Int32 × (Nat → Int32) × Int32 × (Nat → Int32) × Int32 × (Nat → Int32) × Int32 × Int32 × Int32 × Int32)
  | 0, _, _, _, _, _, _, _, _, _, _, _, _, _, _, _, _, _ => none
  | k_ + 1, x1, x2, x3, rPT, fPT, rTT, fTT, rGT, fGT, rLT, fLT, rHT, fHT, giT, diT, reT, tiT =>
    if (10 : Int32) ≤ x3 then
    (some (x1, rPT, fPT, rTT, fTT, rGT, fGT, rLT, fLT, rHT, fHT, giT, diT, reT, tiT))
    else
    (bd15 (f_X5_pairsLostBy x3 rP fP rT fT rG fG rL fL rH fH gi di re ti rPT fPT rTT fTT rGT fGT rLT fLT rHT fHT giT diT reT tiT) (fun r_2 rPT_3 fPT_4 rTT_5 fTT_6 rGT_7 fGT_8 rLT_9 fLT_10 rHT_11 fHT_12 giT_13 diT_14 reT_15 tiT_16 =>
    if r_2 ≤ x2 then
    (nm (x3 + (1 : Int32)) (fun v_19 =>
    f_X5_mostNeeded_L6 rP fP rT fT rG fG rL fL rH fH gi di re ti k_ x1 x2 v_19 rPT_3 fPT_4 rTT_5 fTT_6 rGT_7 fGT_8 rLT_9 fLT_10 rHT_11 fHT_12 giT_13 diT_14 reT_15 tiT_16))
    else
    (nm (x3 + (1 : Int32)) (fun v_20 =>
    f_X5_mostNeeded_L6 rP fP rT fT rG fG rL fL rH fH gi di re ti k_ x3 r_2 v_20 rPT_3 fPT_4 rTT_5 fTT_6 rGT_7 fGT_8 rLT_9 fLT_10 rHT_11 fHT_12 giT_13 diT_14 reT_15 tiT_16))))
def f_X5_mostNeeded (rP : Int32) (fP : (Nat → Int32)) (rT : Int32) (fT : (Nat → Int32)) (rG : Int32) (fG : (Nat → Int32)) (rL : Int32) (fL : (Nat → Int32)) (rH : Int32) (fH : (Nat → Int32)) (gi : Int32) (di : Int32) (re : Int32) (ti : Int32) (rPT : Int32) (fPT : (Nat → Int32)) (rTT : Int32) (fTT : (Nat → Int32)) (rGT : Int32) (fGT : (Nat → Int32)) (rLT : Int32) (fLT : (Nat → Int32)) (rHT : Int32) (fHT : (Nat → Int32)) (giT : Int32) (diT : Int32) (reT : Int32) (tiT : Int32) : Option (Int32 × Int32 × (Nat → Int32) × Int32 × (Nat → Int32) × Int32 × (Nat → Int32) × Int32 × (Nat → Int32) × Int32 × (Nat → Int32) × Int32 × Int32 × Int32 × Int32) :=
  bd15 (f_X5_mostNeeded_L6 rP fP rT fT rG fG rL fL rH fH gi di re ti FU (-1 : Int32) (0 : Int32) (0 : Int32) rPT fPT rTT fTT rGT fGT rLT fLT rHT fHT giT diT reT tiT) (fun y1_21 rPT_22 fPT_23 rTT_24 fTT_25 rGT_26 fGT_27 rLT_28 fLT_29 rHT_30 fHT_31 giT_32 diT_33 reT_34 tiT_35 =>
  some (y1_21, rPT_22, fPT_23, rTT_24, fTT_25, rGT_26, fGT_27, rLT_28, fLT_29, rHT_30, fHT_31, giT_32, diT_33, reT_34, tiT_35))
def f_X5_seenIn (x1 : Int32) (rP : Int32) (fP : (Nat → Int32)) (rT : Int32) (fT : (Nat → Int32)) (rG : Int32) (fG : (Nat → Int32)) (rL : Int32) (fL : (Nat → Int32)) (rH : Int32) (fH : (Nat → Int32)) (gi : Int32) (di : Int32) (re : Int32) (ti : Int32) (rPT : Int32) (fPT : (Nat → Int32)) (rTT : Int32) (fTT : (Nat → Int32)) (rGT : Int32) (fGT : (Nat → Int32)) (rLT : Int32) (fLT : (Nat → Int32)) (rHT : Int32) (fHT : (Nat → Int32)) (giT : Int32) (diT : Int32) (reT : Int32) (tiT : Int32) : Option ((String × Int32 × (Nat → Int32) × Int32 × (Nat → Int32) × Int32 × (Nat → Int32) × Int32 × (Nat → Int32) × Int32 × (Nat → Int32) × Int32 × Int32 × Int32 × Int32) ⊕ (Int32 × Int32 × (Nat → Int32) × Int32 × (Nat → Int32) × Int32 × (Nat → Int32) × Int32 × (Nat → Int32) × Int32 × (Nat → Int32) × Int32 × Int32 × Int32 × Int32)) :=
  bx (f_X5_requireRange x1 (0 : Int32) (100 : Int32)) (fun E_3 => some (.inl (E_3, rPT, fPT, rTT, fTT, rGT, fGT, rLT, fLT, rHT, fHT, giT, diT, reT, tiT))) (fun u_2 =>
  bd14 (f_X2_takeOver rPT fPT rTT fTT rGT fGT rLT fLT rHT fHT giT diT reT tiT rP fP rT fT rG fG rL fL rH fH gi di re ti) (fun rPT_4 fPT_5 rTT_6 fTT_7 rGT_8 fGT_9 rLT_10 fLT_11 rHT_12 fHT_13 giT_14 diT_15 reT_16 tiT_17 =>
  bd9 (f_X2_letPass x1 rPT_4 fPT_5 rTT_6 fTT_7 rGT_8 fGT_9 rLT_10 fLT_11 rHT_12 fHT_13 diT_15 tiT_17) (fun r_19 fPT_20 rGT_21 fGT_22 rLT_23 fLT_24 fHT_25 diT_26 tiT_27 =>
  bd (f_X2_countPairs rTT_6 rHT_12 fHT_25) (fun r_29 =>
  some (.inr (r_29, rPT_4, fPT_20, rTT_6, fTT_7, rGT_21, fGT_22, rLT_23, fLT_24, rHT_12, fHT_25, giT_14, diT_26, reT_16, tiT_27))))))
def f_X5_gainBy (x1 : Int32) (x2 : Int32) (x3 : Int32) (x4 : Int32) (x5 : Int32) (rP : Int32) (fP : (Nat → Int32)) (rT : Int32) (fT : (Nat → Int32)) (rG : Int32) (fG : (Nat → Int32)) (rL : Int32) (fL : (Nat → Int32)) (rH : Int32) (fH : (Nat → Int32)) (gi : Int32) (di : Int32) (re : Int32) (ti : Int32) (rPT : Int32) (fPT : (Nat → Int32)) (rTT : Int32) (fTT : (Nat → Int32)) (rGT : Int32) (fGT : (Nat → Int32)) (rLT : Int32) (fLT : (Nat → Int32)) (rHT : Int32) (fHT : (Nat → Int32)) (giT : Int32) (diT : Int32) (reT : Int32) (tiT : Int32) : Option ((String × Int32 × (Nat → Int32) × Int32 × (Nat → Int32) × Int32 × (Nat → Int32) × Int32 × (Nat → Int32) × Int32 × (Nat → Int32) × Int32 × Int32 × Int32 × Int32) ⊕ (Int32 × Int32 × (Nat → Int32) × Int32 × (Nat → Int32) × Int32 × (Nat → Int32) × Int32 × (Nat → Int32) × Int32 × (Nat → Int32) × Int32 × Int32 × Int32 × Int32)) :=
  bd (f_X2_faultOfGrant x1 x2 x3 x4 x5 rP fP rT rG rH fH) (fun r_1 =>
  bx (f_X5_requireFit r_1) (fun E_5 => some (.inl (E_5, rPT, fPT, rTT, fTT, rGT, fGT, rLT, fLT, rHT, fHT, giT, diT, reT, tiT))) (fun u_4 =>
  if r_1 = (3 : Int32) then
  (some (.inr ((-1 : Int32), rPT, fPT, rTT, fTT, rGT, fGT, rLT, fLT, rHT, fHT, giT, diT, reT, tiT)))
  else
  (bd14 (f_X2_takeOver rPT fPT rTT fTT rGT fGT rLT fLT rHT fHT giT diT reT tiT rP fP rT fT rG fG rL fL rH fH gi di re ti) (fun rPT_7 fPT_8 rTT_9 fTT_10 rGT_11 fGT_12 rLT_13 fLT_14 rHT_15 fHT_16 giT_17 diT_18 reT_19 tiT_20 =>
  bd5 (f_X2_lend x1 x2 x3 x4 x5 rTT_9 fTT_10 rGT_11 fGT_12 rHT_15 fHT_16 giT_17) (fun r_22 rGT_23 fGT_24 fHT_25 giT_26 =>
  bd (f_X2_countPairs rTT_9 rHT_15 fHT_25) (fun r_28 =>
  bd (f_X2_countPairs rT rH fH) (fun r_30 =>
  nm (r_28 - r_30) (fun v_32 =>
  some (.inr (v_32, rPT_7, fPT_8, rTT_9, fTT_10, rGT_23, fGT_24, rLT_13, fLT_14, rHT_15, fHT_25, giT_26, diT_18, reT_19, tiT_20))))))))))
def f_X5_patience (x1 : Int32) (rP : Int32) (fP : (Nat → Int32)) (rG : Int32) (fG : (Nat → Int32)) : Option ((String) ⊕ (Int32)) :=
  bx (f_X5_requirePerson x1) (fun E_3 => some (.inl E_3)) (fun u_2 =>
  bd (f_X3_at (2 : Int32) 20 x1 (0 : Int32) rP fP) (fun r_4 =>
  bd (f_X2_greatestThreshold x1 rG fG) (fun r_6 =>
  nm (r_4 - r_6) (fun v_8 =>
  some (.inr v_8)))))
def f_X5_meanChain_L35 (rS : Int32) (fS : (Nat → Int32)) : Nat → Int32 → Int32 → Int32 →  Option (Int32 × Int32)
  | 0, _, _, _ => none
  | k_ + 1, x1, x2, x4 =>
    if (10 : Int32) ≤ x4 then
    (some (x1, x2))
    else
    (bd (f_X0_stepsTo x4 rS fS) (fun r_2 =>
    if r_2 = (-1 : Int32) then
    (nm (x4 + (1 : Int32)) (fun v_5 =>
    f_X5_meanChain_L35 rS fS k_ x1 x2 v_5))
    else
    (nm (x1 + (1 : Int32)) (fun v_6 =>
    nm (x2 + r_2) (fun v_7 =>
    nm (x4 + (1 : Int32)) (fun v_8 =>
    f_X5_meanChain_L35 rS fS k_ v_6 v_7 v_8))))))
def f_X5_meanChain_L6 (rT : Int32) (fT : (Nat → Int32)) (rG : Int32) (fG : (Nat → Int32)) (rH : Int32) (fH : (Nat → Int32)) (rS : Int32) : Nat → Int32 → Int32 → Int32 → (Nat → Int32) →  Option (Int32 × Int32 × (Nat → Int32))
  | 0, _, _, _, _ => none
  | k_ + 1, x1, x2, x3, fS =>
    bd (f_X3_rows rT) (fun r_9 =>
    if r_9 ≤ x3 then
    (some (x1, x2, fS))
    else
    (bd (f_X0_measure x3 rS fS rT fT rG fG rH fH) (fun fS_12 =>
    bd2 (f_X5_meanChain_L35 rS fS_12 FU x1 x2 (0 : Int32)) (fun y1_14 y2_15 =>
    nm (x3 + (1 : Int32)) (fun v_17 =>
    f_X5_meanChain_L6 rT fT rG fG rH fH rS k_ y1_14 y2_15 v_17 fS_12)))))
def f_X5_meanChain (rT : Int32) (fT : (Nat → Int32)) (rG : Int32) (fG : (Nat → Int32)) (rH : Int32) (fH : (Nat → Int32)) (rS : Int32) (fS : (Nat → Int32)) : Option (UInt64 × (Nat → Int32)) :=
  bd3 (f_X5_meanChain_L6 rT fT rG fG rH fH rS FU (0 : Int32) (0 : Int32) (0 : Int32) fS) (fun y1_18 y2_19 fS_20 =>
  if y1_18 = (0 : Int32) then
  (some (FP.dconst0, fS_20))
  else
  (nz (FP.ddiv (FP.i2d y2_19) (FP.i2d y1_18)) (
  some (FP.ddiv (FP.i2d y2_19) (FP.i2d y1_18), fS_20))))
def f_X5_append (x1 : Int32) (rB : Int32) (fB : (Nat → Int32)) : Option ((String × Int32 × (Nat → Int32)) ⊕ (Int32 × Int32 × (Nat → Int32))) :=
  bx (f_X5_requireRange x1 (0 : Int32) (127 : Int32)) (fun E_3 => some (.inl (E_3, rB, fB))) (fun u_2 =>
  bd (f_X4_isFull rB) (fun r_4 =>
  if r_4 = (0 : Int32) then
  (bd2 (f_X4_add x1 rB fB) (fun rB_7 fB_8 =>
  bd (f_X4_length rB_7) (fun r_10 =>
  some (.inr (r_10, rB_7, fB_8)))))
  else
  (some (.inl ("java/lang/IllegalStateException", rB, fB)))))
def f_X5_clearText (rB : Int32) : Option (Int32 × Int32) :=
  bd (f_X4_length rB) (fun r_1 =>
  bd (f_X4_empty rB) (fun rB_3 =>
  some (r_1, rB_3)))
def f_X5_obeyGrant (x2 : Int32) (rP : Int32) (fP : (Nat → Int32)) (rT : Int32) (fT : (Nat → Int32)) (rG : Int32) (fG : (Nat → Int32)) (rH : Int32) (fH : (Nat → Int32)) (gi : Int32) (rO : Int32) (fO : (Nat → Int32)) : Option (Int32 × Int32 × (Nat → Int32) × (Nat → Int32) × Int32) :=
  bd (f_X3_at (6 : Int32) 600 x2 (1 : Int32) rO fO) (fun r_1 =>
  bd (f_X3_at (6 : Int32) 600 x2 (2 : Int32) rO fO) (fun r_3 =>
  bd (f_X3_at (6 : Int32) 600 x2 (3 : Int32) rO fO) (fun r_5 =>
  bd (f_X3_at (6 : Int32) 600 x2 (4 : Int32) rO fO) (fun r_7 =>
  bd (f_X3_at (6 : Int32) 600 x2 (5 : Int32) rO fO) (fun r_9 =>
  bd (f_X2_faultOfGrant r_1 r_3 r_5 r_7 r_9 rP fP rT rG rH fH) (fun r_11 =>
  if r_11 = (0 : Int32) then
  (bd5 (f_X2_lend r_1 r_3 r_5 r_7 r_9 rT fT rG fG rH fH gi) (fun r_14 rG_15 fG_16 fH_17 gi_18 =>
  some ((1 : Int32), rG_15, fG_16, fH_17, gi_18)))
  else
  (some ((0 : Int32), rG, fG, fH, gi))))))))
def f_X5_obeyRevoke (x1 : Int32) (rT : Int32) (fT : (Nat → Int32)) (rG : Int32) (fG : (Nat → Int32)) (rH : Int32) (fH : (Nat → Int32)) (re : Int32) : Option (Int32 × Int32 × (Nat → Int32) × (Nat → Int32) × Int32) :=
  bd (f_X2_placeOf x1 rG fG) (fun r_1 =>
  if r_1 = (-1 : Int32) then
  (some ((0 : Int32), rG, fG, fH, re))
  else
  (bd5 (f_X2_takeBack r_1 rT fT rG fG rH fH re) (fun r_4 rG_5 fG_6 fH_7 re_8 =>
  some ((1 : Int32), rG_5, fG_6, fH_7, re_8))))
def f_X5_obeyPass (x1 : Int32) (rP : Int32) (fP : (Nat → Int32)) (rT : Int32) (fT : (Nat → Int32)) (rG : Int32) (fG : (Nat → Int32)) (rL : Int32) (fL : (Nat → Int32)) (rH : Int32) (fH : (Nat → Int32)) (di : Int32) (ti : Int32) : Option (Int32 × (Nat → Int32) × Int32 × (Nat → Int32) × Int32 × (Nat → Int32) × (Nat → Int32) × Int32 × Int32) :=
  bd (f_X2_hasTimeFor x1 ti) (fun r_1 =>
  if r_1 = (0 : Int32) then
  (some ((0 : Int32), fP, rG, fG, rL, fL, fH, di, ti))
  else
  (bd9 (f_X2_letPass x1 rP fP rT fT rG fG rL fL rH fH di ti) (fun r_4 fP_5 rG_6 fG_7 rL_8 fL_9 fH_10 di_11 ti_12 =>
  some ((1 : Int32), fP_5, rG_6, fG_7, rL_8, fL_9, fH_10, di_11, ti_12))))
def f_X5_obey (x2 : Int32) (rP : Int32) (fP : (Nat → Int32)) (rT : Int32) (fT : (Nat → Int32)) (rG : Int32) (fG : (Nat → Int32)) (rL : Int32) (fL : (Nat → Int32)) (rH : Int32) (fH : (Nat → Int32)) (gi : Int32) (di : Int32) (re : Int32) (ti : Int32) (rO : Int32) (fO : (Nat → Int32)) : Option (Int32 × (Nat → Int32) × Int32 × (Nat → Int32) × Int32 × (Nat → Int32) × (Nat → Int32) × Int32 × Int32 × Int32 × Int32) :=
  bd (f_X3_at (6 : Int32) 600 x2 (1 : Int32) rO fO) (fun r_1 =>
  bd (f_X3_at (6 : Int32) 600 x2 (0 : Int32) rO fO) (fun r_3 =>
  if r_3 = (99 : Int32) then
  (bd (f_X3_at (6 : Int32) 600 x2 (2 : Int32) rO fO) (fun r_6 =>
  bd8 (f_X2_changeMood r_1 r_6 rP fP rT fT rG fG rL fL rH fH di ti) (fun r_8 fP_9 rG_10 fG_11 rL_12 fL_13 fH_14 di_15 =>
  some ((1 : Int32), fP_9, rG_10, fG_11, rL_12, fL_13, fH_14, gi, di_15, re, ti))))
  else
  (if r_3 = (103 : Int32) then
  (bd5 (f_X5_obeyGrant x2 rP fP rT fT rG fG rH fH gi rO fO) (fun r_18 rG_19 fG_20 fH_21 gi_22 =>
  some (r_18, fP, rG_19, fG_20, rL, fL, fH_21, gi_22, di, re, ti)))
  else
  (if r_3 = (116 : Int32) then
  (bd9 (f_X5_obeyPass r_1 rP fP rT fT rG fG rL fL rH fH di ti) (fun r_25 fP_26 rG_27 fG_28 rL_29 fL_30 fH_31 di_32 ti_33 =>
  some (r_25, fP_26, rG_27, fG_28, rL_29, fL_30, fH_31, gi, di_32, re, ti_33)))
  else
  (if r_3 = (118 : Int32) then
  (bd5 (f_X5_obeyRevoke r_1 rT fT rG fG rH fH re) (fun r_36 rG_37 fG_38 fH_39 re_40 =>
  some (r_36, fP, rG_37, fG_38, rL, fL, fH_39, gi, di, re_40, ti)))
  else
  (some ((0 : Int32), fP, rG, fG, rL, fL, fH, gi, di, re, ti)))))))
def f_X5_carryOut_L39 (rP : Int32) (rT : Int32) (fT : (Nat → Int32)) (rH : Int32) (rB : Int32) (fB : (Nat → Int32)) (rO : Int32) (fO : (Nat → Int32)) (pl : Int32) (fa : Int32) (cn : Int32) (ro : Nat) (Qh : (Nat → HS)) : Nat → Int32 → (Nat → Int32) → Int32 → (Nat → Int32) → Int32 → (Nat → Int32) → (Nat → Int32) → Int32 → Int32 → Int32 → Int32 →  Option (Int32 × (Nat → Int32) × Int32 × (Nat → Int32) × Int32 × (Nat → Int32) × (Nat → Int32) × Int32 × Int32 × Int32 × Int32 × Int32 × (Nat → Int32) × Int32 × Int32 × Int32 × Nat × (Nat → HS))
  | 0, _, _, _, _, _, _, _, _, _, _, _ => none
  | k_ + 1, x3, fP, rG, fG, rL, fL, fH, gi, di, re, ti =>
    bd (f_X3_rows rO) (fun r_1 =>
    if r_1 ≤ x3 then
    (bd (f_X3_rows rO) (fun r_4 =>
    some (r_4, fP, rG, fG, rL, fL, fH, gi, di, re, ti, rO, fO, pl, fa, cn, ro, Qh)))
    else
    (bd11 (f_X5_obey x3 rP fP rT fT rG fG rL fL rH fH gi di re ti rO fO) (fun r_6 fP_7 rG_8 fG_9 rL_10 fL_11 fH_12 gi_13 di_14 re_15 ti_16 =>
    if r_6 = (0 : Int32) then
    (some (x3, fP_7, rG_8, fG_9, rL_10, fL_11, fH_12, gi_13, di_14, re_15, ti_16, rO, fO, pl, fa, cn, ro, Qh))
    else
    (nm (x3 + (1 : Int32)) (fun v_19 =>
    f_X5_carryOut_L39 rP rT fT rH rB fB rO fO pl fa cn ro Qh k_ v_19 fP_7 rG_8 fG_9 rL_10 fL_11 fH_12 gi_13 di_14 re_15 ti_16)))))
def f_X5_carryOut (rP : Int32) (fP : (Nat → Int32)) (rT : Int32) (fT : (Nat → Int32)) (rG : Int32) (fG : (Nat → Int32)) (rL : Int32) (fL : (Nat → Int32)) (rH : Int32) (fH : (Nat → Int32)) (gi : Int32) (di : Int32) (re : Int32) (ti : Int32) (rB : Int32) (fB : (Nat → Int32)) (rO : Int32) (fO : (Nat → Int32)) (pl : Int32) (fa : Int32) (cn : Int32) (ro : Nat) (Qh : (Nat → HS)) : Option (Int32 × (Nat → Int32) × Int32 × (Nat → Int32) × Int32 × (Nat → Int32) × (Nat → Int32) × Int32 × Int32 × Int32 × Int32 × Int32 × (Nat → Int32) × Int32 × Int32 × Int32 × Nat × (Nat → HS)) :=
  bd5 (f_X4_read rB fB rO fO pl fa) (fun r_20 rO_21 fO_22 pl_23 fa_24 =>
  if r_20 = (-1 : Int32) then
  (bd3 (f_X1_keep cn ro Qh rP fP rT fT rG fG rL fL rH fH gi di re ti) (fun cn_27 ro_28 Qh_29 =>
  f_X5_carryOut_L39 rP rT fT rH rB fB rO_21 fO_22 pl_23 fa_24 cn_27 ro_28 Qh_29 FU (0 : Int32) fP rG fG rL fL fH gi di re ti))
  else
  (nm ((-10 : Int32) - r_20) (fun v_31 =>
  some (v_31, fP, rG, fG, rL, fL, fH, gi, di, re, ti, rO_21, fO_22, pl_23, fa_24, cn, ro, Qh))))
def f_X5_undo (rP : Int32) (fP : (Nat → Int32)) (rT : Int32) (fT : (Nat → Int32)) (rG : Int32) (fG : (Nat → Int32)) (rL : Int32) (fL : (Nat → Int32)) (rH : Int32) (fH : (Nat → Int32)) (gi : Int32) (di : Int32) (re : Int32) (ti : Int32) (cn : Int32) (ro : Nat) (Qh : (Nat → HS)) : Option ((String × Int32 × (Nat → Int32) × Int32 × (Nat → Int32) × Int32 × (Nat → Int32) × Int32 × (Nat → Int32) × Int32 × (Nat → Int32) × Int32 × Int32 × Int32 × Int32 × Int32) ⊕ (Int32 × Int32 × (Nat → Int32) × Int32 × (Nat → Int32) × Int32 × (Nat → Int32) × Int32 × (Nat → Int32) × Int32 × (Nat → Int32) × Int32 × Int32 × Int32 × Int32 × Int32)) :=
  bd (f_X1_count cn) (fun r_1 =>
  if r_1 = (0 : Int32) then
  (some (.inl ("java/lang/IllegalStateException", rP, fP, rT, fT, rG, fG, rL, fL, rH, fH, gi, di, re, ti, cn)))
  else
  (bd15 (f_X1_giveBack cn ro Qh rP fP rT fT rG fG rL fL rH fH gi di re ti) (fun cn_4 rP_5 fP_6 rT_7 fT_8 rG_9 fG_10 rL_11 fL_12 rH_13 fH_14 gi_15 di_16 re_17 ti_18 =>
  bd (f_X1_count cn_4) (fun r_20 =>
  some (.inr (r_20, rP_5, fP_6, rT_7, fT_8, rG_9, fG_10, rL_11, fL_12, rH_13, fH_14, gi_15, di_16, re_17, ti_18, cn_4))))))
def f_X5_hashOfPersons_L15 (x5 : Int32) (rP : Int32) (fP : (Nat → Int32)) (rT : Int32) (fT : (Nat → Int32)) (rG : Int32) (fG : (Nat → Int32)) (rH : Int32) (fH : (Nat → Int32)) : Nat → Int64 → Int32 →  Option (Int64)
  | 0, _, _ => none
  | k_ + 1, x3, x6 =>
    if (6 : Int32) < x6 then
    (some x3)
    else
    (bd (f_X2_aboutPerson x5 x6 rP fP rT fT rG fG rH fH) (fun r_2 =>
    nm (((31 : Int64) * x3) + r_2.toInt64) (fun v_4 =>
    nm (x6 + (1 : Int32)) (fun v_5 =>
    f_X5_hashOfPersons_L15 x5 rP fP rT fT rG fG rH fH k_ v_4 v_5))))
def f_X5_hashOfPersons_L5 (rP : Int32) (fP : (Nat → Int32)) (rT : Int32) (fT : (Nat → Int32)) (rG : Int32) (fG : (Nat → Int32)) (rH : Int32) (fH : (Nat → Int32)) : Nat → Int64 → Int32 →  Option (Int64)
  | 0, _, _ => none
  | k_ + 1, x3, x5 =>
    if (10 : Int32) ≤ x5 then
    (some x3)
    else
    (bd (f_X5_hashOfPersons_L15 x5 rP fP rT fT rG fG rH fH FU x3 (0 : Int32)) (fun y3_7 =>
    nm (x5 + (1 : Int32)) (fun v_9 =>
    f_X5_hashOfPersons_L5 rP fP rT fT rG fG rH fH k_ y3_7 v_9)))
def f_X5_hashOfPersons (x1 : Int64) (rP : Int32) (fP : (Nat → Int32)) (rT : Int32) (fT : (Nat → Int32)) (rG : Int32) (fG : (Nat → Int32)) (rH : Int32) (fH : (Nat → Int32)) : Option (Int64) :=
  bd (f_X5_hashOfPersons_L5 rP fP rT fT rG fG rH fH FU x1 (0 : Int32)) (fun y3_10 =>
  some y3_10)
def f_X5_hashOfThings_L23 (x5 : Int32) (rT : Int32) (fT : (Nat → Int32)) (rG : Int32) (fG : (Nat → Int32)) (rH : Int32) (fH : (Nat → Int32)) : Nat → Int64 → Int32 →  Option (Int64)
  | 0, _, _ => none
  | k_ + 1, x3, x6 =>
    if (5 : Int32) < x6 then
    (some x3)
    else
    (bd (f_X2_aboutThing x5 x6 rT fT rG fG rH fH) (fun r_2 =>
    nm (((31 : Int64) * x3) + r_2.toInt64) (fun v_4 =>
    nm (x6 + (1 : Int32)) (fun v_5 =>
    f_X5_hashOfThings_L23 x5 rT fT rG fG rH fH k_ v_4 v_5))))
def f_X5_hashOfThings_L5 (rT : Int32) (fT : (Nat → Int32)) (rG : Int32) (fG : (Nat → Int32)) (rH : Int32) (fH : (Nat → Int32)) : Nat → Int64 → Int32 →  Option (Int64)
  | 0, _, _ => none
  | k_ + 1, x3, x5 =>
    bd (f_X3_rows rT) (fun r_6 =>
    if r_6 ≤ x5 then
    (some x3)
    else
    (bd (f_X5_hashOfThings_L23 x5 rT fT rG fG rH fH FU x3 (0 : Int32)) (fun y3_9 =>
    nm (x5 + (1 : Int32)) (fun v_11 =>
    f_X5_hashOfThings_L5 rT fT rG fG rH fH k_ y3_9 v_11))))
def f_X5_hashOfThings (x1 : Int64) (rT : Int32) (fT : (Nat → Int32)) (rG : Int32) (fG : (Nat → Int32)) (rH : Int32) (fH : (Nat → Int32)) : Option (Int64) :=
  bd (f_X5_hashOfThings_L5 rT fT rG fG rH fH FU x1 (0 : Int32)) (fun y3_12 =>
  some y3_12)
def f_X5_hashOfGrants_L44 (x5 : Int32) (rT : Int32) (fT : (Nat → Int32)) (rG : Int32) (fG : (Nat → Int32)) (rH : Int32) (fH : (Nat → Int32)) : Nat → Int64 → Int32 →  Option (Int64)
  | 0, _, _ => none
  | k_ + 1, x3, x6 =>
    if (5 : Int32) < x6 then
    (some x3)
    else
    (bd (f_X2_aboutGrant x5 x6 rT fT rG fG rH fH) (fun r_2 =>
    nm (((31 : Int64) * x3) + r_2.toInt64) (fun v_4 =>
    nm (x6 + (1 : Int32)) (fun v_5 =>
    f_X5_hashOfGrants_L44 x5 rT fT rG fG rH fH k_ v_4 v_5))))
def f_X5_hashOfGrants_L5 (rT : Int32) (fT : (Nat → Int32)) (rG : Int32) (fG : (Nat → Int32)) (rH : Int32) (fH : (Nat → Int32)) : Nat → Int64 → Int32 →  Option (Int64)
  | 0, _, _ => none
  | k_ + 1, x3, x5 =>
    bd (f_X3_rows rG) (fun r_6 =>
    if r_6 ≤ x5 then
    (some x3)
    else
    (bd (f_X3_at (6 : Int32) 240 x5 (5 : Int32) rG fG) (fun r_9 =>
    nm (((31 : Int64) * x3) + r_9.toInt64) (fun v_11 =>
    bd (f_X5_hashOfGrants_L44 x5 rT fT rG fG rH fH FU v_11 (0 : Int32)) (fun y3_12 =>
    nm (x5 + (1 : Int32)) (fun v_14 =>
    f_X5_hashOfGrants_L5 rT fT rG fG rH fH k_ y3_12 v_14))))))
def f_X5_hashOfGrants (x1 : Int64) (rT : Int32) (fT : (Nat → Int32)) (rG : Int32) (fG : (Nat → Int32)) (rH : Int32) (fH : (Nat → Int32)) : Option (Int64) :=
  bd (f_X5_hashOfGrants_L5 rT fT rG fG rH fH FU x1 (0 : Int32)) (fun y3_15 =>
  some y3_15)
def f_X5_hashOfLog_L23 (x5 : Int32) (rL : Int32) (fL : (Nat → Int32)) : Nat → Int64 → Int32 →  Option (Int64)
  | 0, _, _ => none
  | k_ + 1, x3, x6 =>
    if (2 : Int32) < x6 then
    (some x3)
    else
    (bd (f_X2_aboutEntry x5 x6 rL fL) (fun r_2 =>
    nm (((31 : Int64) * x3) + r_2.toInt64) (fun v_4 =>
    nm (x6 + (1 : Int32)) (fun v_5 =>
    f_X5_hashOfLog_L23 x5 rL fL k_ v_4 v_5))))
def f_X5_hashOfLog_L5 (rL : Int32) (fL : (Nat → Int32)) : Nat → Int64 → Int32 →  Option (Int64)
  | 0, _, _ => none
  | k_ + 1, x3, x5 =>
    bd (f_X3_rows rL) (fun r_6 =>
    if r_6 ≤ x5 then
    (some x3)
    else
    (bd (f_X5_hashOfLog_L23 x5 rL fL FU x3 (0 : Int32)) (fun y3_9 =>
    nm (x5 + (1 : Int32)) (fun v_11 =>
    f_X5_hashOfLog_L5 rL fL k_ y3_9 v_11))))
def f_X5_hashOfLog (x1 : Int64) (rL : Int32) (fL : (Nat → Int32)) : Option (Int64) :=
  bd (f_X5_hashOfLog_L5 rL fL FU x1 (0 : Int32)) (fun y3_12 =>
  some y3_12)
def f_X5_digest_L15 (rT : Int32) (fT : (Nat → Int32)) (rG : Int32) (fG : (Nat → Int32)) (rL : Int32) (rH : Int32) (fH : (Nat → Int32)) (gi : Int32) (di : Int32) (re : Int32) (ti : Int32) : Nat → Int64 → Int32 →  Option (Int64)
  | 0, _, _ => none
  | k_ + 1, x1, x3 =>
    if (8 : Int32) < x3 then
    (some x1)
    else
    (bd (f_X2_aboutHouse x3 rT fT rG fG rL rH fH gi di re ti) (fun r_2 =>
    nm (((31 : Int64) * x1) + r_2.toInt64) (fun v_4 =>
    nm (x3 + (1 : Int32)) (fun v_5 =>
    f_X5_digest_L15 rT fT rG fG rL rH fH gi di re ti k_ v_4 v_5))))
def f_X5_digest (rP : Int32) (fP : (Nat → Int32)) (rT : Int32) (fT : (Nat → Int32)) (rG : Int32) (fG : (Nat → Int32)) (rL : Int32) (fL : (Nat → Int32)) (rH : Int32) (fH : (Nat → Int32)) (gi : Int32) (di : Int32) (re : Int32) (ti : Int32) (rB : Int32) (cn : Int32) : Option (Int64) :=
  bd (f_X4_length rB) (fun r_6 =>
  nm ((113801 : Int64) + r_6.toInt64) (fun v_8 =>
  bd (f_X5_digest_L15 rT fT rG fG rL rH fH gi di re ti FU v_8 (0 : Int32)) (fun y1_9 =>
  bd (f_X5_hashOfPersons y1_9 rP fP rT fT rG fG rH fH) (fun r_11 =>
  bd (f_X5_hashOfThings r_11 rT fT rG fG rH fH) (fun r_13 =>
  bd (f_X5_hashOfGrants r_13 rT fT rG fG rH fH) (fun r_15 =>
  bd (f_X5_hashOfLog r_15 rL fL) (fun r_17 =>
  bd (f_X1_count cn) (fun r_19 =>
  nm (((31 : Int64) * r_17) + r_19.toInt64) (fun v_21 =>
  some v_21)))))))))
def f_X2_init_L78 : Nat → Int32 → Int32 → (Nat → Int32) →  Option (Int32 × (Nat → Int32))
  | 0, _, _, _ => none
  | k_ + 1, x1, rP, fP =>
    if (10 : Int32) ≤ x1 then
    (some (rP, fP))
    else
    (bd2 (f_X3_addRow (10 : Int32) rP) (fun r_2 rP_3 =>
    bd (f_X3_put (2 : Int32) 20 x1 (0 : Int32) (60 : Int32) rP_3 fP) (fun fP_5 =>
    bd (f_X3_put (2 : Int32) 20 x1 (1 : Int32) (60 : Int32) rP_3 fP_5) (fun fP_7 =>
    nm (x1 + (1 : Int32)) (fun v_9 =>
    f_X2_init_L78 k_ v_9 rP_3 fP_7)))))
def f_X2_init : Option (Int32 × (Nat → Int32)) :=
  bd2 (f_X2_init_L78 FU (0 : Int32) (0 : Int32) (fun _ : Nat => (0 : Int32))) (fun rP_10 fP_11 =>
  some (rP_10, fP_11))
def f_X6_init_L64 : Nat → Int32 → (Nat → Int32) →  Option ((Nat → Int32))
  | 0, _, _ => none
  | k_ + 1, x1, al =>
    if (10 : Int32) ≤ x1 then
    (some al)
    else
    (ix ((8 : Int32) + x1) 320 (
    nm (upd al ((8 : Int32) + x1).toNatClampNeg (60 : Int32)) (fun al_3 =>
    ix ((18 : Int32) + x1) 320 (
    nm (upd al_3 ((18 : Int32) + x1).toNatClampNeg (60 : Int32)) (fun al_5 =>
    nm (x1 + (1 : Int32)) (fun v_6 =>
    f_X6_init_L64 k_ v_6 al_5))))))
def f_X6_init : Option ((Nat → Int32)) :=
  bd (f_X6_init_L64 FU (0 : Int32) (fun _ : Nat => (0 : Int32))) (fun al_7 =>
  some al_7)
def f_X0_init : Option (Int32) :=
  bd2 (f_X3_addRow (1 : Int32) (0 : Int32)) (fun r_1 rS_2 =>
  some rS_2)
def bxw {α β γ : Type} (m : Option (α ⊕ β)) (kx : α → Option γ) (k : β → Option γ) : Option γ := bx m kx k
def f_L_addThing (x1 : Int32) (x2 : Int32) (rP : Int32) (fP : (Nat → Int32)) (rT : Int32) (fT : (Nat → Int32)) (rG : Int32) (fG : (Nat → Int32)) (rL : Int32) (fL : (Nat → Int32)) (rH : Int32) (fH : (Nat → Int32)) (gi : Int32) (di : Int32) (re : Int32) (ti : Int32) (cn : Int32) (ro : Nat) (Qh : (Nat → HS)) (fo : (Nat → Int64)) : Option (Int32 × Int32 × (Nat → Int32) × Int32 × (Nat → Int32) × Int32 × Nat × (Nat → HS) × (Nat → Int64)) :=
  bx (f_X5_addThing x1 x2 rP fP rT fT rG fG rL fL rH fH gi di re ti cn ro Qh) (fun e_ => if e_.1 = "java/lang/IndexOutOfBoundsException" then some ((1 : Int32), e_.2.1, e_.2.2.1, e_.2.2.2.1, e_.2.2.2.2.1, e_.2.2.2.2.2.1, e_.2.2.2.2.2.2.1, e_.2.2.2.2.2.2.2, fo) else if e_.1 = "java/lang/IllegalArgumentException" then some ((2 : Int32), e_.2.1, e_.2.2.1, e_.2.2.2.1, e_.2.2.2.2.1, e_.2.2.2.2.2.1, e_.2.2.2.2.2.2.1, e_.2.2.2.2.2.2.2, fo) else if e_.1 = "java/lang/IllegalStateException" then some ((3 : Int32), e_.2.1, e_.2.2.1, e_.2.2.2.1, e_.2.2.2.2.1, e_.2.2.2.2.2.1, e_.2.2.2.2.2.2.1, e_.2.2.2.2.2.2.2, fo) else none) (fun o_ => ix (0 : Int32) 1 (nm (vp_updL fo (0 : Int32).toNatClampNeg o_.1.toInt64) (fun fo_1 => some ((0 : Int32), o_.2.1, o_.2.2.1, o_.2.2.2.1, o_.2.2.2.2.1, o_.2.2.2.2.2.1, o_.2.2.2.2.2.2.1, o_.2.2.2.2.2.2.2, fo_1))))
def f_L_setMask (x1 : Int32) (x2 : Int32) (rP : Int32) (fP : (Nat → Int32)) (rT : Int32) (fT : (Nat → Int32)) (rG : Int32) (fG : (Nat → Int32)) (rL : Int32) (fL : (Nat → Int32)) (rH : Int32) (fH : (Nat → Int32)) (gi : Int32) (di : Int32) (re : Int32) (ti : Int32) (cn : Int32) (ro : Nat) (Qh : (Nat → HS)) (fo : (Nat → Int64)) : Option (Int32 × (Nat → Int32) × (Nat → Int32) × Int32 × Nat × (Nat → HS) × (Nat → Int64)) :=
  bx (f_X5_setMask x1 x2 rP fP rT fT rG fG rL fL rH fH gi di re ti cn ro Qh) (fun e_ => if e_.1 = "java/lang/IndexOutOfBoundsException" then some ((1 : Int32), e_.2.1, e_.2.2.1, e_.2.2.2.1, e_.2.2.2.2.1, e_.2.2.2.2.2, fo) else if e_.1 = "java/lang/IllegalArgumentException" then some ((2 : Int32), e_.2.1, e_.2.2.1, e_.2.2.2.1, e_.2.2.2.2.1, e_.2.2.2.2.2, fo) else none) (fun o_ => ix (0 : Int32) 1 (nm (vp_updL fo (0 : Int32).toNatClampNeg o_.1.toInt64) (fun fo_1 => some ((0 : Int32), o_.2.1, o_.2.2.1, o_.2.2.2.1, o_.2.2.2.2.1, o_.2.2.2.2.2, fo_1))))
def f_L_setBase (x1 : Int32) (x2 : Int32) (rP : Int32) (fP : (Nat → Int32)) (rT : Int32) (fT : (Nat → Int32)) (rG : Int32) (fG : (Nat → Int32)) (rL : Int32) (fL : (Nat → Int32)) (rH : Int32) (fH : (Nat → Int32)) (gi : Int32) (di : Int32) (re : Int32) (ti : Int32) (cn : Int32) (ro : Nat) (Qh : (Nat → HS)) (fo : (Nat → Int64)) : Option (Int32 × (Nat → Int32) × Int32 × Nat × (Nat → HS) × (Nat → Int64)) :=
  bx (f_X5_setBase x1 x2 rP fP rT fT rG fG rL fL rH fH gi di re ti cn ro Qh) (fun e_ => if e_.1 = "java/lang/IndexOutOfBoundsException" then some ((1 : Int32), e_.2.1, e_.2.2.1, e_.2.2.2.1, e_.2.2.2.2, fo) else if e_.1 = "java/lang/IllegalArgumentException" then some ((2 : Int32), e_.2.1, e_.2.2.1, e_.2.2.2.1, e_.2.2.2.2, fo) else none) (fun o_ => ix (0 : Int32) 1 (nm (vp_updL fo (0 : Int32).toNatClampNeg o_.1.toInt64) (fun fo_1 => some ((0 : Int32), o_.2.1, o_.2.2.1, o_.2.2.2.1, o_.2.2.2.2, fo_1))))
def f_L_give (x1 : Int32) (x2 : Int32) (rP : Int32) (fP : (Nat → Int32)) (rT : Int32) (fT : (Nat → Int32)) (rG : Int32) (fG : (Nat → Int32)) (rL : Int32) (fL : (Nat → Int32)) (rH : Int32) (fH : (Nat → Int32)) (gi : Int32) (di : Int32) (re : Int32) (ti : Int32) (cn : Int32) (ro : Nat) (Qh : (Nat → HS)) (fo : (Nat → Int64)) : Option (Int32 × (Nat → Int32) × (Nat → Int32) × Int32 × Nat × (Nat → HS) × (Nat → Int64)) :=
  bx (f_X5_give x1 x2 rP fP rT fT rG fG rL fL rH fH gi di re ti cn ro Qh) (fun e_ => if e_.1 = "java/lang/IndexOutOfBoundsException" then some ((1 : Int32), e_.2.1, e_.2.2.1, e_.2.2.2.1, e_.2.2.2.2.1, e_.2.2.2.2.2, fo) else none) (fun o_ => ix (0 : Int32) 1 (nm (vp_updL fo (0 : Int32).toNatClampNeg o_.1.toInt64) (fun fo_1 => some ((0 : Int32), o_.2.1, o_.2.2.1, o_.2.2.2.1, o_.2.2.2.2.1, o_.2.2.2.2.2, fo_1))))
def f_L_grant (x1 : Int32) (x2 : Int32) (x3 : Int32) (x4 : Int32) (x5 : Int32) (rP : Int32) (fP : (Nat → Int32)) (rT : Int32) (fT : (Nat → Int32)) (rG : Int32) (fG : (Nat → Int32)) (rL : Int32) (fL : (Nat → Int32)) (rH : Int32) (fH : (Nat → Int32)) (gi : Int32) (di : Int32) (re : Int32) (ti : Int32) (cn : Int32) (ro : Nat) (Qh : (Nat → HS)) (fo : (Nat → Int64)) : Option (Int32 × Int32 × (Nat → Int32) × (Nat → Int32) × Int32 × Int32 × Nat × (Nat → HS) × (Nat → Int64)) :=
  bx (f_X5_grant x1 x2 x3 x4 x5 rP fP rT fT rG fG rL fL rH fH gi di re ti cn ro Qh) (fun e_ => if e_.1 = "java/lang/IndexOutOfBoundsException" then some ((1 : Int32), e_.2.1, e_.2.2.1, e_.2.2.2.1, e_.2.2.2.2.1, e_.2.2.2.2.2.1, e_.2.2.2.2.2.2.1, e_.2.2.2.2.2.2.2, fo) else if e_.1 = "java/lang/IllegalArgumentException" then some ((2 : Int32), e_.2.1, e_.2.2.1, e_.2.2.2.1, e_.2.2.2.2.1, e_.2.2.2.2.2.1, e_.2.2.2.2.2.2.1, e_.2.2.2.2.2.2.2, fo) else if e_.1 = "java/lang/IllegalStateException" then some ((3 : Int32), e_.2.1, e_.2.2.1, e_.2.2.2.1, e_.2.2.2.2.1, e_.2.2.2.2.2.1, e_.2.2.2.2.2.2.1, e_.2.2.2.2.2.2.2, fo) else none) (fun o_ => ix (0 : Int32) 1 (nm (vp_updL fo (0 : Int32).toNatClampNeg o_.1.toInt64) (fun fo_1 => some ((0 : Int32), o_.2.1, o_.2.2.1, o_.2.2.2.1, o_.2.2.2.2.1, o_.2.2.2.2.2.1, o_.2.2.2.2.2.2.1, o_.2.2.2.2.2.2.2, fo_1))))
def f_L_revoke (x1 : Int32) (rP : Int32) (fP : (Nat → Int32)) (rT : Int32) (fT : (Nat → Int32)) (rG : Int32) (fG : (Nat → Int32)) (rL : Int32) (fL : (Nat → Int32)) (rH : Int32) (fH : (Nat → Int32)) (gi : Int32) (di : Int32) (re : Int32) (ti : Int32) (cn : Int32) (ro : Nat) (Qh : (Nat → HS)) (fo : (Nat → Int64)) : Option (Int32 × Int32 × (Nat → Int32) × (Nat → Int32) × Int32 × Int32 × Nat × (Nat → HS) × (Nat → Int64)) :=
  bx (f_X5_revoke x1 rP fP rT fT rG fG rL fL rH fH gi di re ti cn ro Qh) (fun e_ => if e_.1 = "java/util/NoSuchElementException" then some ((1 : Int32), e_.2.1, e_.2.2.1, e_.2.2.2.1, e_.2.2.2.2.1, e_.2.2.2.2.2.1, e_.2.2.2.2.2.2.1, e_.2.2.2.2.2.2.2, fo) else none) (fun o_ => ix (0 : Int32) 1 (nm (vp_updL fo (0 : Int32).toNatClampNeg o_.1.toInt64) (fun fo_1 => some ((0 : Int32), o_.2.1, o_.2.2.1, o_.2.2.2.1, o_.2.2.2.2.1, o_.2.2.2.2.2.1, o_.2.2.2.2.2.2.1, o_.2.2.2.2.2.2.2, fo_1))))
def f_L_cheer (x1 : Int32) (x2 : Int32) (rP : Int32) (fP : (Nat → Int32)) (rT : Int32) (fT : (Nat → Int32)) (rG : Int32) (fG : (Nat → Int32)) (rL : Int32) (fL : (Nat → Int32)) (rH : Int32) (fH : (Nat → Int32)) (gi : Int32) (di : Int32) (re : Int32) (ti : Int32) (cn : Int32) (ro : Nat) (Qh : (Nat → HS)) (fo : (Nat → Int64)) : Option (Int32 × (Nat → Int32) × Int32 × (Nat → Int32) × Int32 × (Nat → Int32) × (Nat → Int32) × Int32 × Int32 × Nat × (Nat → HS) × (Nat → Int64)) :=
  bx (f_X5_cheer x1 x2 rP fP rT fT rG fG rL fL rH fH gi di re ti cn ro Qh) (fun e_ => if e_.1 = "java/lang/IndexOutOfBoundsException" then some ((1 : Int32), e_.2.1, e_.2.2.1, e_.2.2.2.1, e_.2.2.2.2.1, e_.2.2.2.2.2.1, e_.2.2.2.2.2.2.1, e_.2.2.2.2.2.2.2.1, e_.2.2.2.2.2.2.2.2.1, e_.2.2.2.2.2.2.2.2.2.1, e_.2.2.2.2.2.2.2.2.2.2, fo) else if e_.1 = "java/lang/IllegalArgumentException" then some ((2 : Int32), e_.2.1, e_.2.2.1, e_.2.2.2.1, e_.2.2.2.2.1, e_.2.2.2.2.2.1, e_.2.2.2.2.2.2.1, e_.2.2.2.2.2.2.2.1, e_.2.2.2.2.2.2.2.2.1, e_.2.2.2.2.2.2.2.2.2.1, e_.2.2.2.2.2.2.2.2.2.2, fo) else none) (fun o_ => ix (0 : Int32) 1 (nm (vp_updL fo (0 : Int32).toNatClampNeg o_.1.toInt64) (fun fo_1 => some ((0 : Int32), o_.2.1, o_.2.2.1, o_.2.2.2.1, o_.2.2.2.2.1, o_.2.2.2.2.2.1, o_.2.2.2.2.2.2.1, o_.2.2.2.2.2.2.2.1, o_.2.2.2.2.2.2.2.2.1, o_.2.2.2.2.2.2.2.2.2.1, o_.2.2.2.2.2.2.2.2.2.2, fo_1))))
def f_L_pass (x1 : Int32) (rP : Int32) (fP : (Nat → Int32)) (rT : Int32) (fT : (Nat → Int32)) (rG : Int32) (fG : (Nat → Int32)) (rL : Int32) (fL : (Nat → Int32)) (rH : Int32) (fH : (Nat → Int32)) (gi : Int32) (di : Int32) (re : Int32) (ti : Int32) (cn : Int32) (ro : Nat) (Qh : (Nat → HS)) (fo : (Nat → Int64)) : Option (Int32 × (Nat → Int32) × Int32 × (Nat → Int32) × Int32 × (Nat → Int32) × (Nat → Int32) × Int32 × Int32 × Int32 × Nat × (Nat → HS) × (Nat → Int64)) :=
  bx (f_X5_pass x1 rP fP rT fT rG fG rL fL rH fH gi di re ti cn ro Qh) (fun e_ => if e_.1 = "java/lang/IllegalArgumentException" then some ((1 : Int32), e_.2.1, e_.2.2.1, e_.2.2.2.1, e_.2.2.2.2.1, e_.2.2.2.2.2.1, e_.2.2.2.2.2.2.1, e_.2.2.2.2.2.2.2.1, e_.2.2.2.2.2.2.2.2.1, e_.2.2.2.2.2.2.2.2.2.1, e_.2.2.2.2.2.2.2.2.2.2.1, e_.2.2.2.2.2.2.2.2.2.2.2, fo) else if e_.1 = "java/lang/IllegalStateException" then some ((2 : Int32), e_.2.1, e_.2.2.1, e_.2.2.2.1, e_.2.2.2.2.1, e_.2.2.2.2.2.1, e_.2.2.2.2.2.2.1, e_.2.2.2.2.2.2.2.1, e_.2.2.2.2.2.2.2.2.1, e_.2.2.2.2.2.2.2.2.2.1, e_.2.2.2.2.2.2.2.2.2.2.1, e_.2.2.2.2.2.2.2.2.2.2.2, fo) else none) (fun o_ => ix (0 : Int32) 1 (nm (vp_updL fo (0 : Int32).toNatClampNeg o_.1.toInt64) (fun fo_1 => some ((0 : Int32), o_.2.1, o_.2.2.1, o_.2.2.2.1, o_.2.2.2.2.1, o_.2.2.2.2.2.1, o_.2.2.2.2.2.2.1, o_.2.2.2.2.2.2.2.1, o_.2.2.2.2.2.2.2.2.1, o_.2.2.2.2.2.2.2.2.2.1, o_.2.2.2.2.2.2.2.2.2.2.1, o_.2.2.2.2.2.2.2.2.2.2.2, fo_1))))
def f_L_held (x1 : Int32) (x2 : Int32) (rT : Int32) (rH : Int32) (fH : (Nat → Int32)) (fo : (Nat → Int64)) : Option (Int32 × (Nat → Int64)) :=
  bx (f_X5_held x1 x2 rT rH fH) (fun e_ => if e_ = "java/lang/IndexOutOfBoundsException" then some ((1 : Int32), fo) else none) (fun o_ => ix (0 : Int32) 1 (nm (vp_updL fo (0 : Int32).toNatClampNeg o_.toInt64) (fun fo_1 => some ((0 : Int32), fo_1))))
def f_L_person (x1 : Int32) (x2 : Int32) (rP : Int32) (fP : (Nat → Int32)) (rT : Int32) (fT : (Nat → Int32)) (rG : Int32) (fG : (Nat → Int32)) (rH : Int32) (fH : (Nat → Int32)) (fo : (Nat → Int64)) : Option (Int32 × (Nat → Int64)) :=
  bx (f_X5_person x1 x2 rP fP rT fT rG fG rH fH) (fun e_ => if e_ = "java/lang/IndexOutOfBoundsException" then some ((1 : Int32), fo) else if e_ = "java/lang/IllegalArgumentException" then some ((2 : Int32), fo) else none) (fun o_ => ix (0 : Int32) 1 (nm (vp_updL fo (0 : Int32).toNatClampNeg o_.toInt64) (fun fo_1 => some ((0 : Int32), fo_1))))
def f_L_thing (x1 : Int32) (x2 : Int32) (rT : Int32) (fT : (Nat → Int32)) (rG : Int32) (fG : (Nat → Int32)) (rH : Int32) (fH : (Nat → Int32)) (fo : (Nat → Int64)) : Option (Int32 × (Nat → Int64)) :=
  bx (f_X5_thing x1 x2 rT fT rG fG rH fH) (fun e_ => if e_ = "java/lang/IndexOutOfBoundsException" then some ((1 : Int32), fo) else if e_ = "java/lang/IllegalArgumentException" then some ((2 : Int32), fo) else none) (fun o_ => ix (0 : Int32) 1 (nm (vp_updL fo (0 : Int32).toNatClampNeg o_.toInt64) (fun fo_1 => some ((0 : Int32), fo_1))))
def f_L_grantOf (x1 : Int32) (x2 : Int32) (rT : Int32) (fT : (Nat → Int32)) (rG : Int32) (fG : (Nat → Int32)) (rH : Int32) (fH : (Nat → Int32)) (fo : (Nat → Int64)) : Option (Int32 × (Nat → Int64)) :=
  bx (f_X5_grantOf x1 x2 rT fT rG fG rH fH) (fun e_ => if e_ = "java/util/NoSuchElementException" then some ((1 : Int32), fo) else if e_ = "java/lang/IllegalArgumentException" then some ((2 : Int32), fo) else none) (fun o_ => ix (0 : Int32) 1 (nm (vp_updL fo (0 : Int32).toNatClampNeg o_.toInt64) (fun fo_1 => some ((0 : Int32), fo_1))))
def f_L_chain (x1 : Int32) (x2 : Int32) (rT : Int32) (fT : (Nat → Int32)) (rG : Int32) (fG : (Nat → Int32)) (rH : Int32) (fH : (Nat → Int32)) (rS : Int32) (fS : (Nat → Int32)) (fo : (Nat → Int64)) : Option (Int32 × (Nat → Int32) × (Nat → Int64)) :=
  bx (f_X5_chain x1 x2 rT fT rG fG rH fH rS fS) (fun e_ => if e_.1 = "java/lang/IndexOutOfBoundsException" then some ((1 : Int32), e_.2, fo) else none) (fun o_ => ix (0 : Int32) 1 (nm (vp_updL fo (0 : Int32).toNatClampNeg o_.1.toInt64) (fun fo_1 => some ((0 : Int32), o_.2, fo_1))))
def f_L_link (x1 : Int32) (x2 : Int32) (x3 : Int32) (rT : Int32) (fT : (Nat → Int32)) (rG : Int32) (fG : (Nat → Int32)) (rH : Int32) (fH : (Nat → Int32)) (rS : Int32) (fS : (Nat → Int32)) (fo : (Nat → Int64)) : Option (Int32 × (Nat → Int32) × (Nat → Int64)) :=
  bx (f_X5_link x1 x2 x3 rT fT rG fG rH fH rS fS) (fun e_ => if e_.1 = "java/lang/IndexOutOfBoundsException" then some ((1 : Int32), e_.2, fo) else none) (fun o_ => ix (0 : Int32) 1 (nm (vp_updL fo (0 : Int32).toNatClampNeg o_.1.toInt64) (fun fo_1 => some ((0 : Int32), o_.2, fo_1))))
def f_L_why (x1 : Int32) (x2 : Int32) (x3 : Int32) (rT : Int32) (fT : (Nat → Int32)) (rG : Int32) (fG : (Nat → Int32)) (rH : Int32) (fH : (Nat → Int32)) (fo : (Nat → Int64)) : Option (Int32 × (Nat → Int64)) :=
  bx (f_X5_why x1 x2 x3 rT fT rG fG rH fH) (fun e_ => if e_ = "java/lang/IndexOutOfBoundsException" then some ((1 : Int32), fo) else if e_ = "java/lang/IllegalArgumentException" then some ((2 : Int32), fo) else none) (fun o_ => ix (0 : Int32) 1 (nm (vp_updL fo (0 : Int32).toNatClampNeg o_.toInt64) (fun fo_1 => some ((0 : Int32), fo_1))))
def f_L_value (x1 : Int32) (rT : Int32) (fT : (Nat → Int32)) (rG : Int32) (fG : (Nat → Int32)) (rL : Int32) (rH : Int32) (fH : (Nat → Int32)) (gi : Int32) (di : Int32) (re : Int32) (ti : Int32) (fo : (Nat → Int64)) : Option (Int32 × (Nat → Int64)) :=
  bx (f_X5_value x1 rT fT rG fG rL rH fH gi di re ti) (fun e_ => if e_ = "java/lang/IllegalArgumentException" then some ((1 : Int32), fo) else none) (fun o_ => ix (0 : Int32) 1 (nm (vp_updL fo (0 : Int32).toNatClampNeg o_.toInt64) (fun fo_1 => some ((0 : Int32), fo_1))))
def f_L_entry (x1 : Int32) (x2 : Int32) (rL : Int32) (fL : (Nat → Int32)) (fo : (Nat → Int64)) : Option (Int32 × (Nat → Int64)) :=
  bx (f_X5_entry x1 x2 rL fL) (fun e_ => if e_ = "java/lang/IndexOutOfBoundsException" then some ((1 : Int32), fo) else if e_ = "java/lang/IllegalArgumentException" then some ((2 : Int32), fo) else none) (fun o_ => ix (0 : Int32) 1 (nm (vp_updL fo (0 : Int32).toNatClampNeg o_.toInt64) (fun fo_1 => some ((0 : Int32), fo_1))))
def f_L_lostBy (x1 : Int32) (rP : Int32) (fP : (Nat → Int32)) (rT : Int32) (fT : (Nat → Int32)) (rG : Int32) (fG : (Nat → Int32)) (rL : Int32) (fL : (Nat → Int32)) (rH : Int32) (fH : (Nat → Int32)) (gi : Int32) (di : Int32) (re : Int32) (ti : Int32) (rPT : Int32) (fPT : (Nat → Int32)) (rTT : Int32) (fTT : (Nat → Int32)) (rGT : Int32) (fGT : (Nat → Int32)) (rLT : Int32) (fLT : (Nat → Int32)) (rHT : Int32) (fHT : (Nat → Int32)) (giT : Int32) (diT : Int32) (reT : Int32) (tiT : Int32) (fo : (Nat → Int64)) : Option (Int32 × Int32 × (Nat → Int32) × Int32 × (Nat → Int32) × Int32 × (Nat → Int32) × Int32 × (Nat → Int32) × Int32 × (Nat → Int32) × Int32 × Int32 × Int32 × Int32 × (Nat → Int64)) :=
  bx (f_X5_lostBy x1 rP fP rT fT rG fG rL fL rH fH gi di re ti rPT fPT rTT fTT rGT fGT rLT fLT rHT fHT giT diT reT tiT) (fun e_ => if e_.1 = "java/lang/IndexOutOfBoundsException" then some ((1 : Int32), e_.2.1, e_.2.2.1, e_.2.2.2.1, e_.2.2.2.2.1, e_.2.2.2.2.2.1, e_.2.2.2.2.2.2.1, e_.2.2.2.2.2.2.2.1, e_.2.2.2.2.2.2.2.2.1, e_.2.2.2.2.2.2.2.2.2.1, e_.2.2.2.2.2.2.2.2.2.2.1, e_.2.2.2.2.2.2.2.2.2.2.2.1, e_.2.2.2.2.2.2.2.2.2.2.2.2.1, e_.2.2.2.2.2.2.2.2.2.2.2.2.2.1, e_.2.2.2.2.2.2.2.2.2.2.2.2.2.2, fo) else none) (fun o_ => ix (0 : Int32) 1 (nm (vp_updL fo (0 : Int32).toNatClampNeg o_.1.toInt64) (fun fo_1 => some ((0 : Int32), o_.2.1, o_.2.2.1, o_.2.2.2.1, o_.2.2.2.2.1, o_.2.2.2.2.2.1, o_.2.2.2.2.2.2.1, o_.2.2.2.2.2.2.2.1, o_.2.2.2.2.2.2.2.2.1, o_.2.2.2.2.2.2.2.2.2.1, o_.2.2.2.2.2.2.2.2.2.2.1, o_.2.2.2.2.2.2.2.2.2.2.2.1, o_.2.2.2.2.2.2.2.2.2.2.2.2.1, o_.2.2.2.2.2.2.2.2.2.2.2.2.2.1, o_.2.2.2.2.2.2.2.2.2.2.2.2.2.2, fo_1))))
def f_L_seenIn (x1 : Int32) (rP : Int32) (fP : (Nat → Int32)) (rT : Int32) (fT : (Nat → Int32)) (rG : Int32) (fG : (Nat → Int32)) (rL : Int32) (fL : (Nat → Int32)) (rH : Int32) (fH : (Nat → Int32)) (gi : Int32) (di : Int32) (re : Int32) (ti : Int32) (rPT : Int32) (fPT : (Nat → Int32)) (rTT : Int32) (fTT : (Nat → Int32)) (rGT : Int32) (fGT : (Nat → Int32)) (rLT : Int32) (fLT : (Nat → Int32)) (rHT : Int32) (fHT : (Nat → Int32)) (giT : Int32) (diT : Int32) (reT : Int32) (tiT : Int32) (fo : (Nat → Int64)) : Option (Int32 × Int32 × (Nat → Int32) × Int32 × (Nat → Int32) × Int32 × (Nat → Int32) × Int32 × (Nat → Int32) × Int32 × (Nat → Int32) × Int32 × Int32 × Int32 × Int32 × (Nat → Int64)) :=
  bx (f_X5_seenIn x1 rP fP rT fT rG fG rL fL rH fH gi di re ti rPT fPT rTT fTT rGT fGT rLT fLT rHT fHT giT diT reT tiT) (fun e_ => if e_.1 = "java/lang/IllegalArgumentException" then some ((1 : Int32), e_.2.1, e_.2.2.1, e_.2.2.2.1, e_.2.2.2.2.1, e_.2.2.2.2.2.1, e_.2.2.2.2.2.2.1, e_.2.2.2.2.2.2.2.1, e_.2.2.2.2.2.2.2.2.1, e_.2.2.2.2.2.2.2.2.2.1, e_.2.2.2.2.2.2.2.2.2.2.1, e_.2.2.2.2.2.2.2.2.2.2.2.1, e_.2.2.2.2.2.2.2.2.2.2.2.2.1, e_.2.2.2.2.2.2.2.2.2.2.2.2.2.1, e_.2.2.2.2.2.2.2.2.2.2.2.2.2.2, fo) else none) (fun o_ => ix (0 : Int32) 1 (nm (vp_updL fo (0 : Int32).toNatClampNeg o_.1.toInt64) (fun fo_1 => some ((0 : Int32), o_.2.1, o_.2.2.1, o_.2.2.2.1, o_.2.2.2.2.1, o_.2.2.2.2.2.1, o_.2.2.2.2.2.2.1, o_.2.2.2.2.2.2.2.1, o_.2.2.2.2.2.2.2.2.1, o_.2.2.2.2.2.2.2.2.2.1, o_.2.2.2.2.2.2.2.2.2.2.1, o_.2.2.2.2.2.2.2.2.2.2.2.1, o_.2.2.2.2.2.2.2.2.2.2.2.2.1, o_.2.2.2.2.2.2.2.2.2.2.2.2.2.1, o_.2.2.2.2.2.2.2.2.2.2.2.2.2.2, fo_1))))
def f_L_gainBy (x1 : Int32) (x2 : Int32) (x3 : Int32) (x4 : Int32) (x5 : Int32) (rP : Int32) (fP : (Nat → Int32)) (rT : Int32) (fT : (Nat → Int32)) (rG : Int32) (fG : (Nat → Int32)) (rL : Int32) (fL : (Nat → Int32)) (rH : Int32) (fH : (Nat → Int32)) (gi : Int32) (di : Int32) (re : Int32) (ti : Int32) (rPT : Int32) (fPT : (Nat → Int32)) (rTT : Int32) (fTT : (Nat → Int32)) (rGT : Int32) (fGT : (Nat → Int32)) (rLT : Int32) (fLT : (Nat → Int32)) (rHT : Int32) (fHT : (Nat → Int32)) (giT : Int32) (diT : Int32) (reT : Int32) (tiT : Int32) (fo : (Nat → Int64)) : Option (Int32 × Int32 × (Nat → Int32) × Int32 × (Nat → Int32) × Int32 × (Nat → Int32) × Int32 × (Nat → Int32) × Int32 × (Nat → Int32) × Int32 × Int32 × Int32 × Int32 × (Nat → Int64)) :=
  bx (f_X5_gainBy x1 x2 x3 x4 x5 rP fP rT fT rG fG rL fL rH fH gi di re ti rPT fPT rTT fTT rGT fGT rLT fLT rHT fHT giT diT reT tiT) (fun e_ => if e_.1 = "java/lang/IndexOutOfBoundsException" then some ((1 : Int32), e_.2.1, e_.2.2.1, e_.2.2.2.1, e_.2.2.2.2.1, e_.2.2.2.2.2.1, e_.2.2.2.2.2.2.1, e_.2.2.2.2.2.2.2.1, e_.2.2.2.2.2.2.2.2.1, e_.2.2.2.2.2.2.2.2.2.1, e_.2.2.2.2.2.2.2.2.2.2.1, e_.2.2.2.2.2.2.2.2.2.2.2.1, e_.2.2.2.2.2.2.2.2.2.2.2.2.1, e_.2.2.2.2.2.2.2.2.2.2.2.2.2.1, e_.2.2.2.2.2.2.2.2.2.2.2.2.2.2, fo) else if e_.1 = "java/lang/IllegalArgumentException" then some ((2 : Int32), e_.2.1, e_.2.2.1, e_.2.2.2.1, e_.2.2.2.2.1, e_.2.2.2.2.2.1, e_.2.2.2.2.2.2.1, e_.2.2.2.2.2.2.2.1, e_.2.2.2.2.2.2.2.2.1, e_.2.2.2.2.2.2.2.2.2.1, e_.2.2.2.2.2.2.2.2.2.2.1, e_.2.2.2.2.2.2.2.2.2.2.2.1, e_.2.2.2.2.2.2.2.2.2.2.2.2.1, e_.2.2.2.2.2.2.2.2.2.2.2.2.2.1, e_.2.2.2.2.2.2.2.2.2.2.2.2.2.2, fo) else none) (fun o_ => ix (0 : Int32) 1 (nm (vp_updL fo (0 : Int32).toNatClampNeg o_.1.toInt64) (fun fo_1 => some ((0 : Int32), o_.2.1, o_.2.2.1, o_.2.2.2.1, o_.2.2.2.2.1, o_.2.2.2.2.2.1, o_.2.2.2.2.2.2.1, o_.2.2.2.2.2.2.2.1, o_.2.2.2.2.2.2.2.2.1, o_.2.2.2.2.2.2.2.2.2.1, o_.2.2.2.2.2.2.2.2.2.2.1, o_.2.2.2.2.2.2.2.2.2.2.2.1, o_.2.2.2.2.2.2.2.2.2.2.2.2.1, o_.2.2.2.2.2.2.2.2.2.2.2.2.2.1, o_.2.2.2.2.2.2.2.2.2.2.2.2.2.2, fo_1))))
def f_L_patience (x1 : Int32) (rP : Int32) (fP : (Nat → Int32)) (rG : Int32) (fG : (Nat → Int32)) (fo : (Nat → Int64)) : Option (Int32 × (Nat → Int64)) :=
  bx (f_X5_patience x1 rP fP rG fG) (fun e_ => if e_ = "java/lang/IndexOutOfBoundsException" then some ((1 : Int32), fo) else none) (fun o_ => ix (0 : Int32) 1 (nm (vp_updL fo (0 : Int32).toNatClampNeg o_.toInt64) (fun fo_1 => some ((0 : Int32), fo_1))))
def f_L_append (x1 : Int32) (rB : Int32) (fB : (Nat → Int32)) (fo : (Nat → Int64)) : Option (Int32 × Int32 × (Nat → Int32) × (Nat → Int64)) :=
  bx (f_X5_append x1 rB fB) (fun e_ => if e_.1 = "java/lang/IllegalArgumentException" then some ((1 : Int32), e_.2.1, e_.2.2, fo) else if e_.1 = "java/lang/IllegalStateException" then some ((2 : Int32), e_.2.1, e_.2.2, fo) else none) (fun o_ => ix (0 : Int32) 1 (nm (vp_updL fo (0 : Int32).toNatClampNeg o_.1.toInt64) (fun fo_1 => some ((0 : Int32), o_.2.1, o_.2.2, fo_1))))
def f_L_undo (rP : Int32) (fP : (Nat → Int32)) (rT : Int32) (fT : (Nat → Int32)) (rG : Int32) (fG : (Nat → Int32)) (rL : Int32) (fL : (Nat → Int32)) (rH : Int32) (fH : (Nat → Int32)) (gi : Int32) (di : Int32) (re : Int32) (ti : Int32) (cn : Int32) (ro : Nat) (Qh : (Nat → HS)) (fo : (Nat → Int64)) : Option (Int32 × Int32 × (Nat → Int32) × Int32 × (Nat → Int32) × Int32 × (Nat → Int32) × Int32 × (Nat → Int32) × Int32 × (Nat → Int32) × Int32 × Int32 × Int32 × Int32 × Int32 × (Nat → Int64)) :=
  bx (f_X5_undo rP fP rT fT rG fG rL fL rH fH gi di re ti cn ro Qh) (fun e_ => if e_.1 = "java/lang/IllegalStateException" then some ((1 : Int32), e_.2.1, e_.2.2.1, e_.2.2.2.1, e_.2.2.2.2.1, e_.2.2.2.2.2.1, e_.2.2.2.2.2.2.1, e_.2.2.2.2.2.2.2.1, e_.2.2.2.2.2.2.2.2.1, e_.2.2.2.2.2.2.2.2.2.1, e_.2.2.2.2.2.2.2.2.2.2.1, e_.2.2.2.2.2.2.2.2.2.2.2.1, e_.2.2.2.2.2.2.2.2.2.2.2.2.1, e_.2.2.2.2.2.2.2.2.2.2.2.2.2.1, e_.2.2.2.2.2.2.2.2.2.2.2.2.2.2.1, e_.2.2.2.2.2.2.2.2.2.2.2.2.2.2.2, fo) else none) (fun o_ => ix (0 : Int32) 1 (nm (vp_updL fo (0 : Int32).toNatClampNeg o_.1.toInt64) (fun fo_1 => some ((0 : Int32), o_.2.1, o_.2.2.1, o_.2.2.2.1, o_.2.2.2.2.1, o_.2.2.2.2.2.1, o_.2.2.2.2.2.2.1, o_.2.2.2.2.2.2.2.1, o_.2.2.2.2.2.2.2.2.1, o_.2.2.2.2.2.2.2.2.2.1, o_.2.2.2.2.2.2.2.2.2.2.1, o_.2.2.2.2.2.2.2.2.2.2.2.1, o_.2.2.2.2.2.2.2.2.2.2.2.2.1, o_.2.2.2.2.2.2.2.2.2.2.2.2.2.1, o_.2.2.2.2.2.2.2.2.2.2.2.2.2.2.1, o_.2.2.2.2.2.2.2.2.2.2.2.2.2.2.2, fo_1))))
def bd16 {α0 α1 α2 α3 α4 α5 α6 α7 α8 α9 α10 α11 α12 α13 α14 α15 γ : Type} (m : Option (α0 × α1 × α2 × α3 × α4 × α5 × α6 × α7 × α8 × α9 × α10 × α11 × α12 × α13 × α14 × α15)) (k : α0 → α1 → α2 → α3 → α4 → α5 → α6 → α7 → α8 → α9 → α10 → α11 → α12 → α13 → α14 → α15 → Option γ) : Option γ := match m with
  | none => none
  | some x => k x.1 x.2.1 x.2.2.1 x.2.2.2.1 x.2.2.2.2.1 x.2.2.2.2.2.1 x.2.2.2.2.2.2.1 x.2.2.2.2.2.2.2.1 x.2.2.2.2.2.2.2.2.1 x.2.2.2.2.2.2.2.2.2.1 x.2.2.2.2.2.2.2.2.2.2.1 x.2.2.2.2.2.2.2.2.2.2.2.1 x.2.2.2.2.2.2.2.2.2.2.2.2.1 x.2.2.2.2.2.2.2.2.2.2.2.2.2.1 x.2.2.2.2.2.2.2.2.2.2.2.2.2.2.1 x.2.2.2.2.2.2.2.2.2.2.2.2.2.2.2
def bd17 {α0 α1 α2 α3 α4 α5 α6 α7 α8 α9 α10 α11 α12 α13 α14 α15 α16 γ : Type} (m : Option (α0 × α1 × α2 × α3 × α4 × α5 × α6 × α7 × α8 × α9 × α10 × α11 × α12 × α13 × α14 × α15 × α16)) (k : α0 → α1 → α2 → α3 → α4 → α5 → α6 → α7 → α8 → α9 → α10 → α11 → α12 → α13 → α14 → α15 → α16 → Option γ) : Option γ := match m with
  | none => none
  | some x => k x.1 x.2.1 x.2.2.1 x.2.2.2.1 x.2.2.2.2.1 x.2.2.2.2.2.1 x.2.2.2.2.2.2.1 x.2.2.2.2.2.2.2.1 x.2.2.2.2.2.2.2.2.1 x.2.2.2.2.2.2.2.2.2.1 x.2.2.2.2.2.2.2.2.2.2.1 x.2.2.2.2.2.2.2.2.2.2.2.1 x.2.2.2.2.2.2.2.2.2.2.2.2.1 x.2.2.2.2.2.2.2.2.2.2.2.2.2.1 x.2.2.2.2.2.2.2.2.2.2.2.2.2.2.1 x.2.2.2.2.2.2.2.2.2.2.2.2.2.2.2.1 x.2.2.2.2.2.2.2.2.2.2.2.2.2.2.2.2
def bd18 {α0 α1 α2 α3 α4 α5 α6 α7 α8 α9 α10 α11 α12 α13 α14 α15 α16 α17 γ : Type} (m : Option (α0 × α1 × α2 × α3 × α4 × α5 × α6 × α7 × α8 × α9 × α10 × α11 × α12 × α13 × α14 × α15 × α16 × α17)) (k : α0 → α1 → α2 → α3 → α4 → α5 → α6 → α7 → α8 → α9 → α10 → α11 → α12 → α13 → α14 → α15 → α16 → α17 → Option γ) : Option γ := match m with
  | none => none
  | some x => k x.1 x.2.1 x.2.2.1 x.2.2.2.1 x.2.2.2.2.1 x.2.2.2.2.2.1 x.2.2.2.2.2.2.1 x.2.2.2.2.2.2.2.1 x.2.2.2.2.2.2.2.2.1 x.2.2.2.2.2.2.2.2.2.1 x.2.2.2.2.2.2.2.2.2.2.1 x.2.2.2.2.2.2.2.2.2.2.2.1 x.2.2.2.2.2.2.2.2.2.2.2.2.1 x.2.2.2.2.2.2.2.2.2.2.2.2.2.1 x.2.2.2.2.2.2.2.2.2.2.2.2.2.2.1 x.2.2.2.2.2.2.2.2.2.2.2.2.2.2.2.1 x.2.2.2.2.2.2.2.2.2.2.2.2.2.2.2.2.1 x.2.2.2.2.2.2.2.2.2.2.2.2.2.2.2.2.2
def bd19 {α0 α1 α2 α3 α4 α5 α6 α7 α8 α9 α10 α11 α12 α13 α14 α15 α16 α17 α18 γ : Type} (m : Option (α0 × α1 × α2 × α3 × α4 × α5 × α6 × α7 × α8 × α9 × α10 × α11 × α12 × α13 × α14 × α15 × α16 × α17 × α18)) (k : α0 → α1 → α2 → α3 → α4 → α5 → α6 → α7 → α8 → α9 → α10 → α11 → α12 → α13 → α14 → α15 → α16 → α17 → α18 → Option γ) : Option γ := match m with
  | none => none
  | some x => k x.1 x.2.1 x.2.2.1 x.2.2.2.1 x.2.2.2.2.1 x.2.2.2.2.2.1 x.2.2.2.2.2.2.1 x.2.2.2.2.2.2.2.1 x.2.2.2.2.2.2.2.2.1 x.2.2.2.2.2.2.2.2.2.1 x.2.2.2.2.2.2.2.2.2.2.1 x.2.2.2.2.2.2.2.2.2.2.2.1 x.2.2.2.2.2.2.2.2.2.2.2.2.1 x.2.2.2.2.2.2.2.2.2.2.2.2.2.1 x.2.2.2.2.2.2.2.2.2.2.2.2.2.2.1 x.2.2.2.2.2.2.2.2.2.2.2.2.2.2.2.1 x.2.2.2.2.2.2.2.2.2.2.2.2.2.2.2.2.1 x.2.2.2.2.2.2.2.2.2.2.2.2.2.2.2.2.2.1 x.2.2.2.2.2.2.2.2.2.2.2.2.2.2.2.2.2.2
def bd20 {α0 α1 α2 α3 α4 α5 α6 α7 α8 α9 α10 α11 α12 α13 α14 α15 α16 α17 α18 α19 γ : Type} (m : Option (α0 × α1 × α2 × α3 × α4 × α5 × α6 × α7 × α8 × α9 × α10 × α11 × α12 × α13 × α14 × α15 × α16 × α17 × α18 × α19)) (k : α0 → α1 → α2 → α3 → α4 → α5 → α6 → α7 → α8 → α9 → α10 → α11 → α12 → α13 → α14 → α15 → α16 → α17 → α18 → α19 → Option γ) : Option γ := match m with
  | none => none
  | some x => k x.1 x.2.1 x.2.2.1 x.2.2.2.1 x.2.2.2.2.1 x.2.2.2.2.2.1 x.2.2.2.2.2.2.1 x.2.2.2.2.2.2.2.1 x.2.2.2.2.2.2.2.2.1 x.2.2.2.2.2.2.2.2.2.1 x.2.2.2.2.2.2.2.2.2.2.1 x.2.2.2.2.2.2.2.2.2.2.2.1 x.2.2.2.2.2.2.2.2.2.2.2.2.1 x.2.2.2.2.2.2.2.2.2.2.2.2.2.1 x.2.2.2.2.2.2.2.2.2.2.2.2.2.2.1 x.2.2.2.2.2.2.2.2.2.2.2.2.2.2.2.1 x.2.2.2.2.2.2.2.2.2.2.2.2.2.2.2.2.1 x.2.2.2.2.2.2.2.2.2.2.2.2.2.2.2.2.2.1 x.2.2.2.2.2.2.2.2.2.2.2.2.2.2.2.2.2.2.1 x.2.2.2.2.2.2.2.2.2.2.2.2.2.2.2.2.2.2.2
def bd21 {α0 α1 α2 α3 α4 α5 α6 α7 α8 α9 α10 α11 α12 α13 α14 α15 α16 α17 α18 α19 α20 γ : Type} (m : Option (α0 × α1 × α2 × α3 × α4 × α5 × α6 × α7 × α8 × α9 × α10 × α11 × α12 × α13 × α14 × α15 × α16 × α17 × α18 × α19 × α20)) (k : α0 → α1 → α2 → α3 → α4 → α5 → α6 → α7 → α8 → α9 → α10 → α11 → α12 → α13 → α14 → α15 → α16 → α17 → α18 → α19 → α20 → Option γ) : Option γ := match m with
  | none => none
  | some x => k x.1 x.2.1 x.2.2.1 x.2.2.2.1 x.2.2.2.2.1 x.2.2.2.2.2.1 x.2.2.2.2.2.2.1 x.2.2.2.2.2.2.2.1 x.2.2.2.2.2.2.2.2.1 x.2.2.2.2.2.2.2.2.2.1 x.2.2.2.2.2.2.2.2.2.2.1 x.2.2.2.2.2.2.2.2.2.2.2.1 x.2.2.2.2.2.2.2.2.2.2.2.2.1 x.2.2.2.2.2.2.2.2.2.2.2.2.2.1 x.2.2.2.2.2.2.2.2.2.2.2.2.2.2.1 x.2.2.2.2.2.2.2.2.2.2.2.2.2.2.2.1 x.2.2.2.2.2.2.2.2.2.2.2.2.2.2.2.2.1 x.2.2.2.2.2.2.2.2.2.2.2.2.2.2.2.2.2.1 x.2.2.2.2.2.2.2.2.2.2.2.2.2.2.2.2.2.2.1 x.2.2.2.2.2.2.2.2.2.2.2.2.2.2.2.2.2.2.2.1 x.2.2.2.2.2.2.2.2.2.2.2.2.2.2.2.2.2.2.2.2
def bd22 {α0 α1 α2 α3 α4 α5 α6 α7 α8 α9 α10 α11 α12 α13 α14 α15 α16 α17 α18 α19 α20 α21 γ : Type} (m : Option (α0 × α1 × α2 × α3 × α4 × α5 × α6 × α7 × α8 × α9 × α10 × α11 × α12 × α13 × α14 × α15 × α16 × α17 × α18 × α19 × α20 × α21)) (k : α0 → α1 → α2 → α3 → α4 → α5 → α6 → α7 → α8 → α9 → α10 → α11 → α12 → α13 → α14 → α15 → α16 → α17 → α18 → α19 → α20 → α21 → Option γ) : Option γ := match m with
  | none => none
  | some x => k x.1 x.2.1 x.2.2.1 x.2.2.2.1 x.2.2.2.2.1 x.2.2.2.2.2.1 x.2.2.2.2.2.2.1 x.2.2.2.2.2.2.2.1 x.2.2.2.2.2.2.2.2.1 x.2.2.2.2.2.2.2.2.2.1 x.2.2.2.2.2.2.2.2.2.2.1 x.2.2.2.2.2.2.2.2.2.2.2.1 x.2.2.2.2.2.2.2.2.2.2.2.2.1 x.2.2.2.2.2.2.2.2.2.2.2.2.2.1 x.2.2.2.2.2.2.2.2.2.2.2.2.2.2.1 x.2.2.2.2.2.2.2.2.2.2.2.2.2.2.2.1 x.2.2.2.2.2.2.2.2.2.2.2.2.2.2.2.2.1 x.2.2.2.2.2.2.2.2.2.2.2.2.2.2.2.2.2.1 x.2.2.2.2.2.2.2.2.2.2.2.2.2.2.2.2.2.2.1 x.2.2.2.2.2.2.2.2.2.2.2.2.2.2.2.2.2.2.2.1 x.2.2.2.2.2.2.2.2.2.2.2.2.2.2.2.2.2.2.2.2.1 x.2.2.2.2.2.2.2.2.2.2.2.2.2.2.2.2.2.2.2.2.2
def bd23 {α0 α1 α2 α3 α4 α5 α6 α7 α8 α9 α10 α11 α12 α13 α14 α15 α16 α17 α18 α19 α20 α21 α22 γ : Type} (m : Option (α0 × α1 × α2 × α3 × α4 × α5 × α6 × α7 × α8 × α9 × α10 × α11 × α12 × α13 × α14 × α15 × α16 × α17 × α18 × α19 × α20 × α21 × α22)) (k : α0 → α1 → α2 → α3 → α4 → α5 → α6 → α7 → α8 → α9 → α10 → α11 → α12 → α13 → α14 → α15 → α16 → α17 → α18 → α19 → α20 → α21 → α22 → Option γ) : Option γ := match m with
  | none => none
  | some x => k x.1 x.2.1 x.2.2.1 x.2.2.2.1 x.2.2.2.2.1 x.2.2.2.2.2.1 x.2.2.2.2.2.2.1 x.2.2.2.2.2.2.2.1 x.2.2.2.2.2.2.2.2.1 x.2.2.2.2.2.2.2.2.2.1 x.2.2.2.2.2.2.2.2.2.2.1 x.2.2.2.2.2.2.2.2.2.2.2.1 x.2.2.2.2.2.2.2.2.2.2.2.2.1 x.2.2.2.2.2.2.2.2.2.2.2.2.2.1 x.2.2.2.2.2.2.2.2.2.2.2.2.2.2.1 x.2.2.2.2.2.2.2.2.2.2.2.2.2.2.2.1 x.2.2.2.2.2.2.2.2.2.2.2.2.2.2.2.2.1 x.2.2.2.2.2.2.2.2.2.2.2.2.2.2.2.2.2.1 x.2.2.2.2.2.2.2.2.2.2.2.2.2.2.2.2.2.2.1 x.2.2.2.2.2.2.2.2.2.2.2.2.2.2.2.2.2.2.2.1 x.2.2.2.2.2.2.2.2.2.2.2.2.2.2.2.2.2.2.2.2.1 x.2.2.2.2.2.2.2.2.2.2.2.2.2.2.2.2.2.2.2.2.2.1 x.2.2.2.2.2.2.2.2.2.2.2.2.2.2.2.2.2.2.2.2.2.2
def bd24 {α0 α1 α2 α3 α4 α5 α6 α7 α8 α9 α10 α11 α12 α13 α14 α15 α16 α17 α18 α19 α20 α21 α22 α23 γ : Type} (m : Option (α0 × α1 × α2 × α3 × α4 × α5 × α6 × α7 × α8 × α9 × α10 × α11 × α12 × α13 × α14 × α15 × α16 × α17 × α18 × α19 × α20 × α21 × α22 × α23)) (k : α0 → α1 → α2 → α3 → α4 → α5 → α6 → α7 → α8 → α9 → α10 → α11 → α12 → α13 → α14 → α15 → α16 → α17 → α18 → α19 → α20 → α21 → α22 → α23 → Option γ) : Option γ := match m with
  | none => none
  | some x => k x.1 x.2.1 x.2.2.1 x.2.2.2.1 x.2.2.2.2.1 x.2.2.2.2.2.1 x.2.2.2.2.2.2.1 x.2.2.2.2.2.2.2.1 x.2.2.2.2.2.2.2.2.1 x.2.2.2.2.2.2.2.2.2.1 x.2.2.2.2.2.2.2.2.2.2.1 x.2.2.2.2.2.2.2.2.2.2.2.1 x.2.2.2.2.2.2.2.2.2.2.2.2.1 x.2.2.2.2.2.2.2.2.2.2.2.2.2.1 x.2.2.2.2.2.2.2.2.2.2.2.2.2.2.1 x.2.2.2.2.2.2.2.2.2.2.2.2.2.2.2.1 x.2.2.2.2.2.2.2.2.2.2.2.2.2.2.2.2.1 x.2.2.2.2.2.2.2.2.2.2.2.2.2.2.2.2.2.1 x.2.2.2.2.2.2.2.2.2.2.2.2.2.2.2.2.2.2.1 x.2.2.2.2.2.2.2.2.2.2.2.2.2.2.2.2.2.2.2.1 x.2.2.2.2.2.2.2.2.2.2.2.2.2.2.2.2.2.2.2.2.1 x.2.2.2.2.2.2.2.2.2.2.2.2.2.2.2.2.2.2.2.2.2.1 x.2.2.2.2.2.2.2.2.2.2.2.2.2.2.2.2.2.2.2.2.2.2.1 x.2.2.2.2.2.2.2.2.2.2.2.2.2.2.2.2.2.2.2.2.2.2.2
def bd25 {α0 α1 α2 α3 α4 α5 α6 α7 α8 α9 α10 α11 α12 α13 α14 α15 α16 α17 α18 α19 α20 α21 α22 α23 α24 γ : Type} (m : Option (α0 × α1 × α2 × α3 × α4 × α5 × α6 × α7 × α8 × α9 × α10 × α11 × α12 × α13 × α14 × α15 × α16 × α17 × α18 × α19 × α20 × α21 × α22 × α23 × α24)) (k : α0 → α1 → α2 → α3 → α4 → α5 → α6 → α7 → α8 → α9 → α10 → α11 → α12 → α13 → α14 → α15 → α16 → α17 → α18 → α19 → α20 → α21 → α22 → α23 → α24 → Option γ) : Option γ := match m with
  | none => none
  | some x => k x.1 x.2.1 x.2.2.1 x.2.2.2.1 x.2.2.2.2.1 x.2.2.2.2.2.1 x.2.2.2.2.2.2.1 x.2.2.2.2.2.2.2.1 x.2.2.2.2.2.2.2.2.1 x.2.2.2.2.2.2.2.2.2.1 x.2.2.2.2.2.2.2.2.2.2.1 x.2.2.2.2.2.2.2.2.2.2.2.1 x.2.2.2.2.2.2.2.2.2.2.2.2.1 x.2.2.2.2.2.2.2.2.2.2.2.2.2.1 x.2.2.2.2.2.2.2.2.2.2.2.2.2.2.1 x.2.2.2.2.2.2.2.2.2.2.2.2.2.2.2.1 x.2.2.2.2.2.2.2.2.2.2.2.2.2.2.2.2.1 x.2.2.2.2.2.2.2.2.2.2.2.2.2.2.2.2.2.1 x.2.2.2.2.2.2.2.2.2.2.2.2.2.2.2.2.2.2.1 x.2.2.2.2.2.2.2.2.2.2.2.2.2.2.2.2.2.2.2.1 x.2.2.2.2.2.2.2.2.2.2.2.2.2.2.2.2.2.2.2.2.1 x.2.2.2.2.2.2.2.2.2.2.2.2.2.2.2.2.2.2.2.2.2.1 x.2.2.2.2.2.2.2.2.2.2.2.2.2.2.2.2.2.2.2.2.2.2.1 x.2.2.2.2.2.2.2.2.2.2.2.2.2.2.2.2.2.2.2.2.2.2.2.1 x.2.2.2.2.2.2.2.2.2.2.2.2.2.2.2.2.2.2.2.2.2.2.2.2
def f_L_law_L23 (L : Nat) (xs : (Nat → Int32)) (rS : Int32) : Nat → Int32 → Int32 → (Nat → Int32) → Int32 → (Nat → Int32) → Int32 → (Nat → Int32) → Int32 → (Nat → Int32) → Int32 → (Nat → Int32) → Int32 → Int32 → Int32 → Int32 → Int32 → (Nat → Int32) → Int32 → (Nat → Int32) → Int32 → (Nat → Int32) → Int32 → (Nat → Int32) → Int32 → (Nat → Int32) → Int32 → Int32 → Int32 → Int32 → (Nat → Int32) → Int32 → (Nat → Int32) → Int32 → (Nat → Int32) → Int32 → Int32 → Int32 → Nat → (Nat → HS) → (Nat → Int64) → (Nat → Int32) → (Nat → Int32) → Int32 → (Nat → Int32) → Int32 → (Nat → Int32) → (Nat → Int32) → (Nat → Int32) → Int32 → Int32 → Int32 → (Nat → Int32) → Int64 →  Option (Int32)
  | 0, _, _, _, _, _, _, _, _, _, _, _, _, _, _, _, _, _, _, _, _, _, _, _, _, _, _, _, _, _, _, _, _, _, _, _, _, _, _, _, _, _, _, _, _, _, _, _, _, _, _, _, _, _ => none
  | k_ + 1, x4, rP, fP, rT, fT, rG, fG, rL, fL, rH, fH, gi, di, re, ti, rPT, fPT, rTT, fTT, rGT, fGT, rLT, fLT, rHT, fHT, giT, diT, reT, tiT, fS, rB, fB, rO, fO, pl, fa, cn, ro, Qh, fo, al, sv, sm, asd, th, ho, fr, txt, tl, pos, od, nu, su =>
    if (Int32.ofNat L) - (6 : Int32) < x4 then
    (some (1 : Int32))
    else
    (ix x4 L (
    nm ((xs x4.toNatClampNeg) &&& (31 : Int32)) (fun v_3 =>
    if v_3 = (0 : Int32) then
    (ix (x4 + (1 : Int32)) L (
    ix (x4 + (2 : Int32)) L (
    bd9 (f_L_addThing (xs (x4 + (1 : Int32)).toNatClampNeg) (xs (x4 + (2 : Int32)).toNatClampNeg) rP fP rT fT rG fG rL fL rH fH gi di re ti cn ro Qh fo) (fun r_7 rT_8 fT_9 rH_10 fH_11 cn_12 ro_13 Qh_14 fo_15 =>
    ix (x4 + (1 : Int32)) L (
    ix (x4 + (2 : Int32)) L (
    bd5 (f_X6_addThing (xs (x4 + (1 : Int32)).toNatClampNeg) (xs (x4 + (2 : Int32)).toNatClampNeg) al sv sm th) (fun r_19 al_20 sv_21 sm_22 th_23 =>
    bd (f_X6_thrown th_23) (fun r_25 =>
    if r_25 = r_7 then
    (if r_7 = (0 : Int32) then
    (ix (0 : Int32) 1 (
    if lg_cmp (fo_15 (0 : Int32).toNatClampNeg) r_19.toInt64 = (0 : Int32) then
    (nm (x4 + (6 : Int32)) (fun v_32 =>
    f_L_law_L23 L xs rS k_ v_32 rP fP rT_8 fT_9 rG fG rL fL rH_10 fH_11 gi di re ti rPT fPT rTT fTT rGT fGT rLT fLT rHT fHT giT diT reT tiT fS rB fB rO fO pl fa cn_12 ro_13 Qh_14 fo_15 al_20 sv_21 sm_22 asd th_23 ho fr txt tl pos od nu su))
    else
    (some (0 : Int32))))
    else
    (nm (x4 + (6 : Int32)) (fun v_29 =>
    f_L_law_L23 L xs rS k_ v_29 rP fP rT_8 fT_9 rG fG rL fL rH_10 fH_11 gi di re ti rPT fPT rTT fTT rGT fGT rLT fLT rHT fHT giT diT reT tiT fS rB fB rO fO pl fa cn_12 ro_13 Qh_14 fo_15 al_20 sv_21 sm_22 asd th_23 ho fr txt tl pos od nu su)))
    else
    (some (0 : Int32))))))))))
    else
    (if v_3 = (1 : Int32) then
    (ix (x4 + (1 : Int32)) L (
    ix (x4 + (2 : Int32)) L (
    bd7 (f_L_setMask (xs (x4 + (1 : Int32)).toNatClampNeg) (xs (x4 + (2 : Int32)).toNatClampNeg) rP fP rT fT rG fG rL fL rH fH gi di re ti cn ro Qh fo) (fun r_36 fT_37 fH_38 cn_39 ro_40 Qh_41 fo_42 =>
    ix (x4 + (1 : Int32)) L (
    ix (x4 + (2 : Int32)) L (
    bd5 (f_X6_setMask (xs (x4 + (1 : Int32)).toNatClampNeg) (xs (x4 + (2 : Int32)).toNatClampNeg) al sv sm th) (fun r_46 al_47 sv_48 sm_49 th_50 =>
    bd (f_X6_thrown th_50) (fun r_52 =>
    if r_52 = r_36 then
    (if r_36 = (0 : Int32) then
    (ix (0 : Int32) 1 (
    if lg_cmp (fo_42 (0 : Int32).toNatClampNeg) r_46.toInt64 = (0 : Int32) then
    (nm (x4 + (6 : Int32)) (fun v_59 =>
    f_L_law_L23 L xs rS k_ v_59 rP fP rT fT_37 rG fG rL fL rH fH_38 gi di re ti rPT fPT rTT fTT rGT fGT rLT fLT rHT fHT giT diT reT tiT fS rB fB rO fO pl fa cn_39 ro_40 Qh_41 fo_42 al_47 sv_48 sm_49 asd th_50 ho fr txt tl pos od nu su))
    else
    (some (0 : Int32))))
    else
    (nm (x4 + (6 : Int32)) (fun v_56 =>
    f_L_law_L23 L xs rS k_ v_56 rP fP rT fT_37 rG fG rL fL rH fH_38 gi di re ti rPT fPT rTT fTT rGT fGT rLT fLT rHT fHT giT diT reT tiT fS rB fB rO fO pl fa cn_39 ro_40 Qh_41 fo_42 al_47 sv_48 sm_49 asd th_50 ho fr txt tl pos od nu su)))
    else
    (some (0 : Int32))))))))))
    else
    (if v_3 = (2 : Int32) then
    (ix (x4 + (1 : Int32)) L (
    ix (x4 + (2 : Int32)) L (
    bd6 (f_L_setBase (xs (x4 + (1 : Int32)).toNatClampNeg) (xs (x4 + (2 : Int32)).toNatClampNeg) rP fP rT fT rG fG rL fL rH fH gi di re ti cn ro Qh fo) (fun r_63 fP_64 cn_65 ro_66 Qh_67 fo_68 =>
    ix (x4 + (1 : Int32)) L (
    ix (x4 + (2 : Int32)) L (
    bd5 (f_X6_setBase (xs (x4 + (1 : Int32)).toNatClampNeg) (xs (x4 + (2 : Int32)).toNatClampNeg) al sv sm th) (fun r_72 al_73 sv_74 sm_75 th_76 =>
    bd (f_X6_thrown th_76) (fun r_78 =>
    if r_78 = r_63 then
    (if r_63 = (0 : Int32) then
    (ix (0 : Int32) 1 (
    if lg_cmp (fo_68 (0 : Int32).toNatClampNeg) r_72.toInt64 = (0 : Int32) then
    (nm (x4 + (6 : Int32)) (fun v_85 =>
    f_L_law_L23 L xs rS k_ v_85 rP fP_64 rT fT rG fG rL fL rH fH gi di re ti rPT fPT rTT fTT rGT fGT rLT fLT rHT fHT giT diT reT tiT fS rB fB rO fO pl fa cn_65 ro_66 Qh_67 fo_68 al_73 sv_74 sm_75 asd th_76 ho fr txt tl pos od nu su))
    else
    (some (0 : Int32))))
    else
    (nm (x4 + (6 : Int32)) (fun v_82 =>
    f_L_law_L23 L xs rS k_ v_82 rP fP_64 rT fT rG fG rL fL rH fH gi di re ti rPT fPT rTT fTT rGT fGT rLT fLT rHT fHT giT diT reT tiT fS rB fB rO fO pl fa cn_65 ro_66 Qh_67 fo_68 al_73 sv_74 sm_75 asd th_76 ho fr txt tl pos od nu su)))
    else
    (some (0 : Int32))))))))))
    else
    (if v_3 = (3 : Int32) then
    (ix (x4 + (1 : Int32)) L (
    ix (x4 + (2 : Int32)) L (
    bd7 (f_L_give (xs (x4 + (1 : Int32)).toNatClampNeg) (xs (x4 + (2 : Int32)).toNatClampNeg) rP fP rT fT rG fG rL fL rH fH gi di re ti cn ro Qh fo) (fun r_89 fT_90 fH_91 cn_92 ro_93 Qh_94 fo_95 =>
    ix (x4 + (1 : Int32)) L (
    ix (x4 + (2 : Int32)) L (
    bd5 (f_X6_give (xs (x4 + (1 : Int32)).toNatClampNeg) (xs (x4 + (2 : Int32)).toNatClampNeg) al sv sm th) (fun r_99 al_100 sv_101 sm_102 th_103 =>
    bd (f_X6_thrown th_103) (fun r_105 =>
    if r_105 = r_89 then
    (if r_89 = (0 : Int32) then
    (ix (0 : Int32) 1 (
    if lg_cmp (fo_95 (0 : Int32).toNatClampNeg) r_99.toInt64 = (0 : Int32) then
    (nm (x4 + (6 : Int32)) (fun v_112 =>
    f_L_law_L23 L xs rS k_ v_112 rP fP rT fT_90 rG fG rL fL rH fH_91 gi di re ti rPT fPT rTT fTT rGT fGT rLT fLT rHT fHT giT diT reT tiT fS rB fB rO fO pl fa cn_92 ro_93 Qh_94 fo_95 al_100 sv_101 sm_102 asd th_103 ho fr txt tl pos od nu su))
    else
    (some (0 : Int32))))
    else
    (nm (x4 + (6 : Int32)) (fun v_109 =>
    f_L_law_L23 L xs rS k_ v_109 rP fP rT fT_90 rG fG rL fL rH fH_91 gi di re ti rPT fPT rTT fTT rGT fGT rLT fLT rHT fHT giT diT reT tiT fS rB fB rO fO pl fa cn_92 ro_93 Qh_94 fo_95 al_100 sv_101 sm_102 asd th_103 ho fr txt tl pos od nu su)))
    else
    (some (0 : Int32))))))))))
    else
    (if v_3 = (4 : Int32) then
    (ix (x4 + (1 : Int32)) L (
    ix (x4 + (2 : Int32)) L (
    ix (x4 + (3 : Int32)) L (
    ix (x4 + (4 : Int32)) L (
    ix (x4 + (5 : Int32)) L (
    bd9 (f_L_grant (xs (x4 + (1 : Int32)).toNatClampNeg) (xs (x4 + (2 : Int32)).toNatClampNeg) (xs (x4 + (3 : Int32)).toNatClampNeg) (xs (x4 + (4 : Int32)).toNatClampNeg) (xs (x4 + (5 : Int32)).toNatClampNeg) rP fP rT fT rG fG rL fL rH fH gi di re ti cn ro Qh fo) (fun r_119 rG_120 fG_121 fH_122 gi_123 cn_124 ro_125 Qh_126 fo_127 =>
    ix (x4 + (1 : Int32)) L (
    ix (x4 + (2 : Int32)) L (
    ix (x4 + (3 : Int32)) L (
    ix (x4 + (4 : Int32)) L (
    ix (x4 + (5 : Int32)) L (
    bd6 (f_X6_grant (xs (x4 + (1 : Int32)).toNatClampNeg) (xs (x4 + (2 : Int32)).toNatClampNeg) (xs (x4 + (3 : Int32)).toNatClampNeg) (xs (x4 + (4 : Int32)).toNatClampNeg) (xs (x4 + (5 : Int32)).toNatClampNeg) al sv sm th ho) (fun r_134 al_135 sv_136 sm_137 th_138 ho_139 =>
    bd (f_X6_thrown th_138) (fun r_141 =>
    if r_141 = r_119 then
    (if r_119 = (0 : Int32) then
    (ix (0 : Int32) 1 (
    if lg_cmp (fo_127 (0 : Int32).toNatClampNeg) r_134.toInt64 = (0 : Int32) then
    (nm (x4 + (6 : Int32)) (fun v_148 =>
    f_L_law_L23 L xs rS k_ v_148 rP fP rT fT rG_120 fG_121 rL fL rH fH_122 gi_123 di re ti rPT fPT rTT fTT rGT fGT rLT fLT rHT fHT giT diT reT tiT fS rB fB rO fO pl fa cn_124 ro_125 Qh_126 fo_127 al_135 sv_136 sm_137 asd th_138 ho_139 fr txt tl pos od nu su))
    else
    (some (0 : Int32))))
    else
    (nm (x4 + (6 : Int32)) (fun v_145 =>
    f_L_law_L23 L xs rS k_ v_145 rP fP rT fT rG_120 fG_121 rL fL rH fH_122 gi_123 di re ti rPT fPT rTT fTT rGT fGT rLT fLT rHT fHT giT diT reT tiT fS rB fB rO fO pl fa cn_124 ro_125 Qh_126 fo_127 al_135 sv_136 sm_137 asd th_138 ho_139 fr txt tl pos od nu su)))
    else
    (some (0 : Int32))))))))))))))))
    else
    (if v_3 = (5 : Int32) then
    (ix (x4 + (1 : Int32)) L (
    bd9 (f_L_revoke (xs (x4 + (1 : Int32)).toNatClampNeg) rP fP rT fT rG fG rL fL rH fH gi di re ti cn ro Qh fo) (fun r_151 rG_152 fG_153 fH_154 re_155 cn_156 ro_157 Qh_158 fo_159 =>
    ix (x4 + (1 : Int32)) L (
    bd6 (f_X6_revoke (xs (x4 + (1 : Int32)).toNatClampNeg) al sv sm th ho) (fun r_162 al_163 sv_164 sm_165 th_166 ho_167 =>
    bd (f_X6_thrown th_166) (fun r_169 =>
    if r_169 = r_151 then
    (if r_151 = (0 : Int32) then
    (ix (0 : Int32) 1 (
    if lg_cmp (fo_159 (0 : Int32).toNatClampNeg) r_162.toInt64 = (0 : Int32) then
    (nm (x4 + (6 : Int32)) (fun v_176 =>
    f_L_law_L23 L xs rS k_ v_176 rP fP rT fT rG_152 fG_153 rL fL rH fH_154 gi di re_155 ti rPT fPT rTT fTT rGT fGT rLT fLT rHT fHT giT diT reT tiT fS rB fB rO fO pl fa cn_156 ro_157 Qh_158 fo_159 al_163 sv_164 sm_165 asd th_166 ho_167 fr txt tl pos od nu su))
    else
    (some (0 : Int32))))
    else
    (nm (x4 + (6 : Int32)) (fun v_173 =>
    f_L_law_L23 L xs rS k_ v_173 rP fP rT fT rG_152 fG_153 rL fL rH fH_154 gi di re_155 ti rPT fPT rTT fTT rGT fGT rLT fLT rHT fHT giT diT reT tiT fS rB fB rO fO pl fa cn_156 ro_157 Qh_158 fo_159 al_163 sv_164 sm_165 asd th_166 ho_167 fr txt tl pos od nu su)))
    else
    (some (0 : Int32))))))))
    else
    (if v_3 = (6 : Int32) then
    (ix (x4 + (1 : Int32)) L (
    ix (x4 + (2 : Int32)) L (
    bd12 (f_L_cheer (xs (x4 + (1 : Int32)).toNatClampNeg) (xs (x4 + (2 : Int32)).toNatClampNeg) rP fP rT fT rG fG rL fL rH fH gi di re ti cn ro Qh fo) (fun r_180 fP_181 rG_182 fG_183 rL_184 fL_185 fH_186 di_187 cn_188 ro_189 Qh_190 fo_191 =>
    ix (x4 + (1 : Int32)) L (
    ix (x4 + (2 : Int32)) L (
    bd5 (f_X6_cheer (xs (x4 + (1 : Int32)).toNatClampNeg) (xs (x4 + (2 : Int32)).toNatClampNeg) al sv sm th) (fun r_195 al_196 sv_197 sm_198 th_199 =>
    bd (f_X6_thrown th_199) (fun r_201 =>
    if r_201 = r_180 then
    (if r_180 = (0 : Int32) then
    (ix (0 : Int32) 1 (
    if lg_cmp (fo_191 (0 : Int32).toNatClampNeg) r_195.toInt64 = (0 : Int32) then
    (nm (x4 + (6 : Int32)) (fun v_208 =>
    f_L_law_L23 L xs rS k_ v_208 rP fP_181 rT fT rG_182 fG_183 rL_184 fL_185 rH fH_186 gi di_187 re ti rPT fPT rTT fTT rGT fGT rLT fLT rHT fHT giT diT reT tiT fS rB fB rO fO pl fa cn_188 ro_189 Qh_190 fo_191 al_196 sv_197 sm_198 asd th_199 ho fr txt tl pos od nu su))
    else
    (some (0 : Int32))))
    else
    (nm (x4 + (6 : Int32)) (fun v_205 =>
    f_L_law_L23 L xs rS k_ v_205 rP fP_181 rT fT rG_182 fG_183 rL_184 fL_185 rH fH_186 gi di_187 re ti rPT fPT rTT fTT rGT fGT rLT fLT rHT fHT giT diT reT tiT fS rB fB rO fO pl fa cn_188 ro_189 Qh_190 fo_191 al_196 sv_197 sm_198 asd th_199 ho fr txt tl pos od nu su)))
    else
    (some (0 : Int32))))))))))
    else
    (if v_3 = (7 : Int32) then
    (ix (x4 + (1 : Int32)) L (
    bd13 (f_L_pass (xs (x4 + (1 : Int32)).toNatClampNeg) rP fP rT fT rG fG rL fL rH fH gi di re ti cn ro Qh fo) (fun r_211 fP_212 rG_213 fG_214 rL_215 fL_216 fH_217 di_218 ti_219 cn_220 ro_221 Qh_222 fo_223 =>
    ix (x4 + (1 : Int32)) L (
    bd5 (f_X6_pass (xs (x4 + (1 : Int32)).toNatClampNeg) al sv sm th) (fun r_226 al_227 sv_228 sm_229 th_230 =>
    bd (f_X6_thrown th_230) (fun r_232 =>
    if r_232 = r_211 then
    (if r_211 = (0 : Int32) then
    (ix (0 : Int32) 1 (
    if lg_cmp (fo_223 (0 : Int32).toNatClampNeg) r_226.toInt64 = (0 : Int32) then
    (nm (x4 + (6 : Int32)) (fun v_239 =>
    f_L_law_L23 L xs rS k_ v_239 rP fP_212 rT fT rG_213 fG_214 rL_215 fL_216 rH fH_217 gi di_218 re ti_219 rPT fPT rTT fTT rGT fGT rLT fLT rHT fHT giT diT reT tiT fS rB fB rO fO pl fa cn_220 ro_221 Qh_222 fo_223 al_227 sv_228 sm_229 asd th_230 ho fr txt tl pos od nu su))
    else
    (some (0 : Int32))))
    else
    (nm (x4 + (6 : Int32)) (fun v_236 =>
    f_L_law_L23 L xs rS k_ v_236 rP fP_212 rT fT rG_213 fG_214 rL_215 fL_216 rH fH_217 gi di_218 re ti_219 rPT fPT rTT fTT rGT fGT rLT fLT rHT fHT giT diT reT tiT fS rB fB rO fO pl fa cn_220 ro_221 Qh_222 fo_223 al_227 sv_228 sm_229 asd th_230 ho fr txt tl pos od nu su)))
    else
    (some (0 : Int32))))))))
    else
    (if v_3 = (8 : Int32) then
    (ix (x4 + (1 : Int32)) L (
    ix (x4 + (2 : Int32)) L (
    bd2 (f_L_held (xs (x4 + (1 : Int32)).toNatClampNeg) (xs (x4 + (2 : Int32)).toNatClampNeg) rT rH fH fo) (fun r_243 fo_244 =>
    ix (x4 + (1 : Int32)) L (
    ix (x4 + (2 : Int32)) L (
    bd3 (f_X6_held (xs (x4 + (1 : Int32)).toNatClampNeg) (xs (x4 + (2 : Int32)).toNatClampNeg) al th ho) (fun r_248 th_249 ho_250 =>
    bd (f_X6_thrown th_249) (fun r_252 =>
    if r_252 = r_243 then
    (if r_243 = (0 : Int32) then
    (ix (0 : Int32) 1 (
    if lg_cmp (fo_244 (0 : Int32).toNatClampNeg) r_248.toInt64 = (0 : Int32) then
    (nm (x4 + (6 : Int32)) (fun v_259 =>
    f_L_law_L23 L xs rS k_ v_259 rP fP rT fT rG fG rL fL rH fH gi di re ti rPT fPT rTT fTT rGT fGT rLT fLT rHT fHT giT diT reT tiT fS rB fB rO fO pl fa cn ro Qh fo_244 al sv sm asd th_249 ho_250 fr txt tl pos od nu su))
    else
    (some (0 : Int32))))
    else
    (nm (x4 + (6 : Int32)) (fun v_256 =>
    f_L_law_L23 L xs rS k_ v_256 rP fP rT fT rG fG rL fL rH fH gi di re ti rPT fPT rTT fTT rGT fGT rLT fLT rHT fHT giT diT reT tiT fS rB fB rO fO pl fa cn ro Qh fo_244 al sv sm asd th_249 ho_250 fr txt tl pos od nu su)))
    else
    (some (0 : Int32))))))))))
    else
    (if v_3 = (9 : Int32) then
    (ix (x4 + (1 : Int32)) L (
    ix (x4 + (2 : Int32)) L (
    bd2 (f_L_person (xs (x4 + (1 : Int32)).toNatClampNeg) (xs (x4 + (2 : Int32)).toNatClampNeg) rP fP rT fT rG fG rH fH fo) (fun r_263 fo_264 =>
    ix (x4 + (1 : Int32)) L (
    ix (x4 + (2 : Int32)) L (
    bd3 (f_X6_person (xs (x4 + (1 : Int32)).toNatClampNeg) (xs (x4 + (2 : Int32)).toNatClampNeg) al th ho) (fun r_268 th_269 ho_270 =>
    bd (f_X6_thrown th_269) (fun r_272 =>
    if r_272 = r_263 then
    (if r_263 = (0 : Int32) then
    (ix (0 : Int32) 1 (
    if lg_cmp (fo_264 (0 : Int32).toNatClampNeg) r_268.toInt64 = (0 : Int32) then
    (nm (x4 + (6 : Int32)) (fun v_279 =>
    f_L_law_L23 L xs rS k_ v_279 rP fP rT fT rG fG rL fL rH fH gi di re ti rPT fPT rTT fTT rGT fGT rLT fLT rHT fHT giT diT reT tiT fS rB fB rO fO pl fa cn ro Qh fo_264 al sv sm asd th_269 ho_270 fr txt tl pos od nu su))
    else
    (some (0 : Int32))))
    else
    (nm (x4 + (6 : Int32)) (fun v_276 =>
    f_L_law_L23 L xs rS k_ v_276 rP fP rT fT rG fG rL fL rH fH gi di re ti rPT fPT rTT fTT rGT fGT rLT fLT rHT fHT giT diT reT tiT fS rB fB rO fO pl fa cn ro Qh fo_264 al sv sm asd th_269 ho_270 fr txt tl pos od nu su)))
    else
    (some (0 : Int32))))))))))
    else
    (if v_3 = (10 : Int32) then
    (ix (x4 + (1 : Int32)) L (
    ix (x4 + (2 : Int32)) L (
    bd2 (f_L_thing (xs (x4 + (1 : Int32)).toNatClampNeg) (xs (x4 + (2 : Int32)).toNatClampNeg) rT fT rG fG rH fH fo) (fun r_283 fo_284 =>
    ix (x4 + (1 : Int32)) L (
    ix (x4 + (2 : Int32)) L (
    bd3 (f_X6_thing (xs (x4 + (1 : Int32)).toNatClampNeg) (xs (x4 + (2 : Int32)).toNatClampNeg) al th ho) (fun r_288 th_289 ho_290 =>
    bd (f_X6_thrown th_289) (fun r_292 =>
    if r_292 = r_283 then
    (if r_283 = (0 : Int32) then
    (ix (0 : Int32) 1 (
    if lg_cmp (fo_284 (0 : Int32).toNatClampNeg) r_288.toInt64 = (0 : Int32) then
    (nm (x4 + (6 : Int32)) (fun v_299 =>
    f_L_law_L23 L xs rS k_ v_299 rP fP rT fT rG fG rL fL rH fH gi di re ti rPT fPT rTT fTT rGT fGT rLT fLT rHT fHT giT diT reT tiT fS rB fB rO fO pl fa cn ro Qh fo_284 al sv sm asd th_289 ho_290 fr txt tl pos od nu su))
    else
    (some (0 : Int32))))
    else
    (nm (x4 + (6 : Int32)) (fun v_296 =>
    f_L_law_L23 L xs rS k_ v_296 rP fP rT fT rG fG rL fL rH fH gi di re ti rPT fPT rTT fTT rGT fGT rLT fLT rHT fHT giT diT reT tiT fS rB fB rO fO pl fa cn ro Qh fo_284 al sv sm asd th_289 ho_290 fr txt tl pos od nu su)))
    else
    (some (0 : Int32))))))))))
    else
    (if v_3 = (11 : Int32) then
    (ix (x4 + (1 : Int32)) L (
    ix (x4 + (2 : Int32)) L (
    bd2 (f_L_grantOf (xs (x4 + (1 : Int32)).toNatClampNeg) (xs (x4 + (2 : Int32)).toNatClampNeg) rT fT rG fG rH fH fo) (fun r_303 fo_304 =>
    ix (x4 + (1 : Int32)) L (
    ix (x4 + (2 : Int32)) L (
    bd3 (f_X6_grantOf (xs (x4 + (1 : Int32)).toNatClampNeg) (xs (x4 + (2 : Int32)).toNatClampNeg) al th ho) (fun r_308 th_309 ho_310 =>
    bd (f_X6_thrown th_309) (fun r_312 =>
    if r_312 = r_303 then
    (if r_303 = (0 : Int32) then
    (ix (0 : Int32) 1 (
    if lg_cmp (fo_304 (0 : Int32).toNatClampNeg) r_308.toInt64 = (0 : Int32) then
    (nm (x4 + (6 : Int32)) (fun v_319 =>
    f_L_law_L23 L xs rS k_ v_319 rP fP rT fT rG fG rL fL rH fH gi di re ti rPT fPT rTT fTT rGT fGT rLT fLT rHT fHT giT diT reT tiT fS rB fB rO fO pl fa cn ro Qh fo_304 al sv sm asd th_309 ho_310 fr txt tl pos od nu su))
    else
    (some (0 : Int32))))
    else
    (nm (x4 + (6 : Int32)) (fun v_316 =>
    f_L_law_L23 L xs rS k_ v_316 rP fP rT fT rG fG rL fL rH fH gi di re ti rPT fPT rTT fTT rGT fGT rLT fLT rHT fHT giT diT reT tiT fS rB fB rO fO pl fa cn ro Qh fo_304 al sv sm asd th_309 ho_310 fr txt tl pos od nu su)))
    else
    (some (0 : Int32))))))))))
    else
    (if v_3 = (12 : Int32) then
    (ix (x4 + (1 : Int32)) L (
    ix (x4 + (2 : Int32)) L (
    bd3 (f_L_chain (xs (x4 + (1 : Int32)).toNatClampNeg) (xs (x4 + (2 : Int32)).toNatClampNeg) rT fT rG fG rH fH rS fS fo) (fun r_323 fS_324 fo_325 =>
    ix (x4 + (1 : Int32)) L (
    ix (x4 + (2 : Int32)) L (
    bd4 (f_X6_chain (xs (x4 + (1 : Int32)).toNatClampNeg) (xs (x4 + (2 : Int32)).toNatClampNeg) al th ho fr) (fun r_329 th_330 ho_331 fr_332 =>
    bd (f_X6_thrown th_330) (fun r_334 =>
    if r_334 = r_323 then
    (if r_323 = (0 : Int32) then
    (ix (0 : Int32) 1 (
    if lg_cmp (fo_325 (0 : Int32).toNatClampNeg) r_329.toInt64 = (0 : Int32) then
    (nm (x4 + (6 : Int32)) (fun v_341 =>
    f_L_law_L23 L xs rS k_ v_341 rP fP rT fT rG fG rL fL rH fH gi di re ti rPT fPT rTT fTT rGT fGT rLT fLT rHT fHT giT diT reT tiT fS_324 rB fB rO fO pl fa cn ro Qh fo_325 al sv sm asd th_330 ho_331 fr_332 txt tl pos od nu su))
    else
    (some (0 : Int32))))
    else
    (nm (x4 + (6 : Int32)) (fun v_338 =>
    f_L_law_L23 L xs rS k_ v_338 rP fP rT fT rG fG rL fL rH fH gi di re ti rPT fPT rTT fTT rGT fGT rLT fLT rHT fHT giT diT reT tiT fS_324 rB fB rO fO pl fa cn ro Qh fo_325 al sv sm asd th_330 ho_331 fr_332 txt tl pos od nu su)))
    else
    (some (0 : Int32))))))))))
    else
    (if v_3 = (13 : Int32) then
    (ix (x4 + (1 : Int32)) L (
    ix (x4 + (2 : Int32)) L (
    ix (x4 + (3 : Int32)) L (
    bd3 (f_L_link (xs (x4 + (1 : Int32)).toNatClampNeg) (xs (x4 + (2 : Int32)).toNatClampNeg) (xs (x4 + (3 : Int32)).toNatClampNeg) rT fT rG fG rH fH rS fS fo) (fun r_346 fS_347 fo_348 =>
    ix (x4 + (1 : Int32)) L (
    ix (x4 + (2 : Int32)) L (
    ix (x4 + (3 : Int32)) L (
    bd4 (f_X6_link (xs (x4 + (1 : Int32)).toNatClampNeg) (xs (x4 + (2 : Int32)).toNatClampNeg) (xs (x4 + (3 : Int32)).toNatClampNeg) al th ho fr) (fun r_353 th_354 ho_355 fr_356 =>
    bd (f_X6_thrown th_354) (fun r_358 =>
    if r_358 = r_346 then
    (if r_346 = (0 : Int32) then
    (ix (0 : Int32) 1 (
    if lg_cmp (fo_348 (0 : Int32).toNatClampNeg) r_353.toInt64 = (0 : Int32) then
    (nm (x4 + (6 : Int32)) (fun v_365 =>
    f_L_law_L23 L xs rS k_ v_365 rP fP rT fT rG fG rL fL rH fH gi di re ti rPT fPT rTT fTT rGT fGT rLT fLT rHT fHT giT diT reT tiT fS_347 rB fB rO fO pl fa cn ro Qh fo_348 al sv sm asd th_354 ho_355 fr_356 txt tl pos od nu su))
    else
    (some (0 : Int32))))
    else
    (nm (x4 + (6 : Int32)) (fun v_362 =>
    f_L_law_L23 L xs rS k_ v_362 rP fP rT fT rG fG rL fL rH fH gi di re ti rPT fPT rTT fTT rGT fGT rLT fLT rHT fHT giT diT reT tiT fS_347 rB fB rO fO pl fa cn ro Qh fo_348 al sv sm asd th_354 ho_355 fr_356 txt tl pos od nu su)))
    else
    (some (0 : Int32))))))))))))
    else
    (if v_3 = (14 : Int32) then
    (ix (x4 + (1 : Int32)) L (
    ix (x4 + (2 : Int32)) L (
    ix (x4 + (3 : Int32)) L (
    bd2 (f_L_why (xs (x4 + (1 : Int32)).toNatClampNeg) (xs (x4 + (2 : Int32)).toNatClampNeg) (xs (x4 + (3 : Int32)).toNatClampNeg) rT fT rG fG rH fH fo) (fun r_370 fo_371 =>
    ix (x4 + (1 : Int32)) L (
    ix (x4 + (2 : Int32)) L (
    ix (x4 + (3 : Int32)) L (
    bd3 (f_X6_why (xs (x4 + (1 : Int32)).toNatClampNeg) (xs (x4 + (2 : Int32)).toNatClampNeg) (xs (x4 + (3 : Int32)).toNatClampNeg) al th ho) (fun r_376 th_377 ho_378 =>
    bd (f_X6_thrown th_377) (fun r_380 =>
    if r_380 = r_370 then
    (if r_370 = (0 : Int32) then
    (ix (0 : Int32) 1 (
    if lg_cmp (fo_371 (0 : Int32).toNatClampNeg) r_376.toInt64 = (0 : Int32) then
    (nm (x4 + (6 : Int32)) (fun v_387 =>
    f_L_law_L23 L xs rS k_ v_387 rP fP rT fT rG fG rL fL rH fH gi di re ti rPT fPT rTT fTT rGT fGT rLT fLT rHT fHT giT diT reT tiT fS rB fB rO fO pl fa cn ro Qh fo_371 al sv sm asd th_377 ho_378 fr txt tl pos od nu su))
    else
    (some (0 : Int32))))
    else
    (nm (x4 + (6 : Int32)) (fun v_384 =>
    f_L_law_L23 L xs rS k_ v_384 rP fP rT fT rG fG rL fL rH fH gi di re ti rPT fPT rTT fTT rGT fGT rLT fLT rHT fHT giT diT reT tiT fS rB fB rO fO pl fa cn ro Qh fo_371 al sv sm asd th_377 ho_378 fr txt tl pos od nu su)))
    else
    (some (0 : Int32))))))))))))
    else
    (if v_3 = (15 : Int32) then
    (ix (x4 + (1 : Int32)) L (
    bd2 (f_L_value (xs (x4 + (1 : Int32)).toNatClampNeg) rT fT rG fG rL rH fH gi di re ti fo) (fun r_390 fo_391 =>
    ix (x4 + (1 : Int32)) L (
    bd3 (f_X6_value (xs (x4 + (1 : Int32)).toNatClampNeg) al th ho) (fun r_394 th_395 ho_396 =>
    bd (f_X6_thrown th_395) (fun r_398 =>
    if r_398 = r_390 then
    (if r_390 = (0 : Int32) then
    (ix (0 : Int32) 1 (
    if lg_cmp (fo_391 (0 : Int32).toNatClampNeg) r_394.toInt64 = (0 : Int32) then
    (nm (x4 + (6 : Int32)) (fun v_405 =>
    f_L_law_L23 L xs rS k_ v_405 rP fP rT fT rG fG rL fL rH fH gi di re ti rPT fPT rTT fTT rGT fGT rLT fLT rHT fHT giT diT reT tiT fS rB fB rO fO pl fa cn ro Qh fo_391 al sv sm asd th_395 ho_396 fr txt tl pos od nu su))
    else
    (some (0 : Int32))))
    else
    (nm (x4 + (6 : Int32)) (fun v_402 =>
    f_L_law_L23 L xs rS k_ v_402 rP fP rT fT rG fG rL fL rH fH gi di re ti rPT fPT rTT fTT rGT fGT rLT fLT rHT fHT giT diT reT tiT fS rB fB rO fO pl fa cn ro Qh fo_391 al sv sm asd th_395 ho_396 fr txt tl pos od nu su)))
    else
    (some (0 : Int32))))))))
    else
    (if v_3 = (16 : Int32) then
    (ix (x4 + (1 : Int32)) L (
    ix (x4 + (2 : Int32)) L (
    bd2 (f_L_entry (xs (x4 + (1 : Int32)).toNatClampNeg) (xs (x4 + (2 : Int32)).toNatClampNeg) rL fL fo) (fun r_409 fo_410 =>
    ix (x4 + (1 : Int32)) L (
    ix (x4 + (2 : Int32)) L (
    bd2 (f_X6_entry (xs (x4 + (1 : Int32)).toNatClampNeg) (xs (x4 + (2 : Int32)).toNatClampNeg) al th) (fun r_414 th_415 =>
    bd (f_X6_thrown th_415) (fun r_417 =>
    if r_417 = r_409 then
    (if r_409 = (0 : Int32) then
    (ix (0 : Int32) 1 (
    if lg_cmp (fo_410 (0 : Int32).toNatClampNeg) r_414.toInt64 = (0 : Int32) then
    (nm (x4 + (6 : Int32)) (fun v_424 =>
    f_L_law_L23 L xs rS k_ v_424 rP fP rT fT rG fG rL fL rH fH gi di re ti rPT fPT rTT fTT rGT fGT rLT fLT rHT fHT giT diT reT tiT fS rB fB rO fO pl fa cn ro Qh fo_410 al sv sm asd th_415 ho fr txt tl pos od nu su))
    else
    (some (0 : Int32))))
    else
    (nm (x4 + (6 : Int32)) (fun v_421 =>
    f_L_law_L23 L xs rS k_ v_421 rP fP rT fT rG fG rL fL rH fH gi di re ti rPT fPT rTT fTT rGT fGT rLT fLT rHT fHT giT diT reT tiT fS rB fB rO fO pl fa cn ro Qh fo_410 al sv sm asd th_415 ho fr txt tl pos od nu su)))
    else
    (some (0 : Int32))))))))))
    else
    (if v_3 = (17 : Int32) then
    (ix (x4 + (1 : Int32)) L (
    bd16 (f_L_lostBy (xs (x4 + (1 : Int32)).toNatClampNeg) rP fP rT fT rG fG rL fL rH fH gi di re ti rPT fPT rTT fTT rGT fGT rLT fLT rHT fHT giT diT reT tiT fo) (fun r_427 rPT_428 fPT_429 rTT_430 fTT_431 rGT_432 fGT_433 rLT_434 fLT_435 rHT_436 fHT_437 giT_438 diT_439 reT_440 tiT_441 fo_442 =>
    ix (x4 + (1 : Int32)) L (
    bd5 (f_X6_lostBy (xs (x4 + (1 : Int32)).toNatClampNeg) al asd th ho) (fun r_445 al_446 asd_447 th_448 ho_449 =>
    bd (f_X6_thrown th_448) (fun r_451 =>
    if r_451 = r_427 then
    (if r_427 = (0 : Int32) then
    (ix (0 : Int32) 1 (
    if lg_cmp (fo_442 (0 : Int32).toNatClampNeg) r_445.toInt64 = (0 : Int32) then
    (nm (x4 + (6 : Int32)) (fun v_458 =>
    f_L_law_L23 L xs rS k_ v_458 rP fP rT fT rG fG rL fL rH fH gi di re ti rPT_428 fPT_429 rTT_430 fTT_431 rGT_432 fGT_433 rLT_434 fLT_435 rHT_436 fHT_437 giT_438 diT_439 reT_440 tiT_441 fS rB fB rO fO pl fa cn ro Qh fo_442 al_446 sv sm asd_447 th_448 ho_449 fr txt tl pos od nu su))
    else
    (some (0 : Int32))))
    else
    (nm (x4 + (6 : Int32)) (fun v_455 =>
    f_L_law_L23 L xs rS k_ v_455 rP fP rT fT rG fG rL fL rH fH gi di re ti rPT_428 fPT_429 rTT_430 fTT_431 rGT_432 fGT_433 rLT_434 fLT_435 rHT_436 fHT_437 giT_438 diT_439 reT_440 tiT_441 fS rB fB rO fO pl fa cn ro Qh fo_442 al_446 sv sm asd_447 th_448 ho_449 fr txt tl pos od nu su)))
    else
    (some (0 : Int32))))))))
    else
    (if v_3 = (18 : Int32) then
    (bd15 (f_X5_mostNeeded rP fP rT fT rG fG rL fL rH fH gi di re ti rPT fPT rTT fTT rGT fGT rLT fLT rHT fHT giT diT reT tiT) (fun r_460 rPT_461 fPT_462 rTT_463 fTT_464 rGT_465 fGT_466 rLT_467 fLT_468 rHT_469 fHT_470 giT_471 diT_472 reT_473 tiT_474 =>
    bd5 (f_X6_mostNeeded al asd th ho) (fun r_476 al_477 asd_478 th_479 ho_480 =>
    if r_460 = r_476 then
    (nm (x4 + (6 : Int32)) (fun v_483 =>
    f_L_law_L23 L xs rS k_ v_483 rP fP rT fT rG fG rL fL rH fH gi di re ti rPT_461 fPT_462 rTT_463 fTT_464 rGT_465 fGT_466 rLT_467 fLT_468 rHT_469 fHT_470 giT_471 diT_472 reT_473 tiT_474 fS rB fB rO fO pl fa cn ro Qh fo al_477 sv sm asd_478 th_479 ho_480 fr txt tl pos od nu su))
    else
    (some (0 : Int32)))))
    else
    (if v_3 = (19 : Int32) then
    (ix (x4 + (1 : Int32)) L (
    bd16 (f_L_seenIn (xs (x4 + (1 : Int32)).toNatClampNeg) rP fP rT fT rG fG rL fL rH fH gi di re ti rPT fPT rTT fTT rGT fGT rLT fLT rHT fHT giT diT reT tiT fo) (fun r_486 rPT_487 fPT_488 rTT_489 fTT_490 rGT_491 fGT_492 rLT_493 fLT_494 rHT_495 fHT_496 giT_497 diT_498 reT_499 tiT_500 fo_501 =>
    ix (x4 + (1 : Int32)) L (
    bd5 (f_X6_seenIn (xs (x4 + (1 : Int32)).toNatClampNeg) al asd th ho) (fun r_504 al_505 asd_506 th_507 ho_508 =>
    bd (f_X6_thrown th_507) (fun r_510 =>
    if r_510 = r_486 then
    (if r_486 = (0 : Int32) then
    (ix (0 : Int32) 1 (
    if lg_cmp (fo_501 (0 : Int32).toNatClampNeg) r_504.toInt64 = (0 : Int32) then
    (nm (x4 + (6 : Int32)) (fun v_517 =>
    f_L_law_L23 L xs rS k_ v_517 rP fP rT fT rG fG rL fL rH fH gi di re ti rPT_487 fPT_488 rTT_489 fTT_490 rGT_491 fGT_492 rLT_493 fLT_494 rHT_495 fHT_496 giT_497 diT_498 reT_499 tiT_500 fS rB fB rO fO pl fa cn ro Qh fo_501 al_505 sv sm asd_506 th_507 ho_508 fr txt tl pos od nu su))
    else
    (some (0 : Int32))))
    else
    (nm (x4 + (6 : Int32)) (fun v_514 =>
    f_L_law_L23 L xs rS k_ v_514 rP fP rT fT rG fG rL fL rH fH gi di re ti rPT_487 fPT_488 rTT_489 fTT_490 rGT_491 fGT_492 rLT_493 fLT_494 rHT_495 fHT_496 giT_497 diT_498 reT_499 tiT_500 fS rB fB rO fO pl fa cn ro Qh fo_501 al_505 sv sm asd_506 th_507 ho_508 fr txt tl pos od nu su)))
    else
    (some (0 : Int32))))))))
    else
    (if v_3 = (20 : Int32) then
    (ix (x4 + (1 : Int32)) L (
    ix (x4 + (2 : Int32)) L (
    ix (x4 + (3 : Int32)) L (
    ix (x4 + (4 : Int32)) L (
    ix (x4 + (5 : Int32)) L (
    bd16 (f_L_gainBy (xs (x4 + (1 : Int32)).toNatClampNeg) (xs (x4 + (2 : Int32)).toNatClampNeg) (xs (x4 + (3 : Int32)).toNatClampNeg) (xs (x4 + (4 : Int32)).toNatClampNeg) (xs (x4 + (5 : Int32)).toNatClampNeg) rP fP rT fT rG fG rL fL rH fH gi di re ti rPT fPT rTT fTT rGT fGT rLT fLT rHT fHT giT diT reT tiT fo) (fun r_524 rPT_525 fPT_526 rTT_527 fTT_528 rGT_529 fGT_530 rLT_531 fLT_532 rHT_533 fHT_534 giT_535 diT_536 reT_537 tiT_538 fo_539 =>
    ix (x4 + (1 : Int32)) L (
    ix (x4 + (2 : Int32)) L (
    ix (x4 + (3 : Int32)) L (
    ix (x4 + (4 : Int32)) L (
    ix (x4 + (5 : Int32)) L (
    bd5 (f_X6_gainBy (xs (x4 + (1 : Int32)).toNatClampNeg) (xs (x4 + (2 : Int32)).toNatClampNeg) (xs (x4 + (3 : Int32)).toNatClampNeg) (xs (x4 + (4 : Int32)).toNatClampNeg) (xs (x4 + (5 : Int32)).toNatClampNeg) al asd th ho) (fun r_546 al_547 asd_548 th_549 ho_550 =>
    bd (f_X6_thrown th_549) (fun r_552 =>
    if r_552 = r_524 then
    (if r_524 = (0 : Int32) then
    (ix (0 : Int32) 1 (
    if lg_cmp (fo_539 (0 : Int32).toNatClampNeg) r_546.toInt64 = (0 : Int32) then
    (nm (x4 + (6 : Int32)) (fun v_559 =>
    f_L_law_L23 L xs rS k_ v_559 rP fP rT fT rG fG rL fL rH fH gi di re ti rPT_525 fPT_526 rTT_527 fTT_528 rGT_529 fGT_530 rLT_531 fLT_532 rHT_533 fHT_534 giT_535 diT_536 reT_537 tiT_538 fS rB fB rO fO pl fa cn ro Qh fo_539 al_547 sv sm asd_548 th_549 ho_550 fr txt tl pos od nu su))
    else
    (some (0 : Int32))))
    else
    (nm (x4 + (6 : Int32)) (fun v_556 =>
    f_L_law_L23 L xs rS k_ v_556 rP fP rT fT rG fG rL fL rH fH gi di re ti rPT_525 fPT_526 rTT_527 fTT_528 rGT_529 fGT_530 rLT_531 fLT_532 rHT_533 fHT_534 giT_535 diT_536 reT_537 tiT_538 fS rB fB rO fO pl fa cn ro Qh fo_539 al_547 sv sm asd_548 th_549 ho_550 fr txt tl pos od nu su)))
    else
    (some (0 : Int32))))))))))))))))
    else
    (if v_3 = (21 : Int32) then
    (ix (x4 + (1 : Int32)) L (
    bd2 (f_L_patience (xs (x4 + (1 : Int32)).toNatClampNeg) rP fP rG fG fo) (fun r_562 fo_563 =>
    ix (x4 + (1 : Int32)) L (
    bd2 (f_X6_patience (xs (x4 + (1 : Int32)).toNatClampNeg) al th) (fun r_566 th_567 =>
    bd (f_X6_thrown th_567) (fun r_569 =>
    if r_569 = r_562 then
    (if r_562 = (0 : Int32) then
    (ix (0 : Int32) 1 (
    if lg_cmp (fo_563 (0 : Int32).toNatClampNeg) r_566.toInt64 = (0 : Int32) then
    (nm (x4 + (6 : Int32)) (fun v_576 =>
    f_L_law_L23 L xs rS k_ v_576 rP fP rT fT rG fG rL fL rH fH gi di re ti rPT fPT rTT fTT rGT fGT rLT fLT rHT fHT giT diT reT tiT fS rB fB rO fO pl fa cn ro Qh fo_563 al sv sm asd th_567 ho fr txt tl pos od nu su))
    else
    (some (0 : Int32))))
    else
    (nm (x4 + (6 : Int32)) (fun v_573 =>
    f_L_law_L23 L xs rS k_ v_573 rP fP rT fT rG fG rL fL rH fH gi di re ti rPT fPT rTT fTT rGT fGT rLT fLT rHT fHT giT diT reT tiT fS rB fB rO fO pl fa cn ro Qh fo_563 al sv sm asd th_567 ho fr txt tl pos od nu su)))
    else
    (some (0 : Int32))))))))
    else
    (if v_3 = (22 : Int32) then
    (bd2 (f_X5_meanChain rT fT rG fG rH fH rS fS) (fun r_578 fS_579 =>
    bd4 (f_X6_meanChain al th ho fr) (fun r_581 th_582 ho_583 fr_584 =>
    if Op.cmpValue (FP.dcmp r_578 r_581) .l = (0 : Int32) then
    (nm (x4 + (6 : Int32)) (fun v_587 =>
    f_L_law_L23 L xs rS k_ v_587 rP fP rT fT rG fG rL fL rH fH gi di re ti rPT fPT rTT fTT rGT fGT rLT fLT rHT fHT giT diT reT tiT fS_579 rB fB rO fO pl fa cn ro Qh fo al sv sm asd th_582 ho_583 fr_584 txt tl pos od nu su))
    else
    (if Op.cmpValue (FP.dcmp r_578 r_578) .l = (0 : Int32) then
    (some (0 : Int32))
    else
    (if Op.cmpValue (FP.dcmp r_581 r_581) .l = (0 : Int32) then
    (some (0 : Int32))
    else
    (nm (x4 + (6 : Int32)) (fun v_590 =>
    f_L_law_L23 L xs rS k_ v_590 rP fP rT fT rG fG rL fL rH fH gi di re ti rPT fPT rTT fTT rGT fGT rLT fLT rHT fHT giT diT reT tiT fS_579 rB fB rO fO pl fa cn ro Qh fo al sv sm asd th_582 ho_583 fr_584 txt tl pos od nu su)))))))
    else
    (if v_3 = (23 : Int32) then
    (ix (x4 + (1 : Int32)) L (
    bd4 (f_L_append (xs (x4 + (1 : Int32)).toNatClampNeg) rB fB fo) (fun r_593 rB_594 fB_595 fo_596 =>
    ix (x4 + (1 : Int32)) L (
    bd4 (f_X6_append (xs (x4 + (1 : Int32)).toNatClampNeg) th txt tl) (fun r_599 th_600 txt_601 tl_602 =>
    bd (f_X6_thrown th_600) (fun r_604 =>
    if r_604 = r_593 then
    (if r_593 = (0 : Int32) then
    (ix (0 : Int32) 1 (
    if lg_cmp (fo_596 (0 : Int32).toNatClampNeg) r_599.toInt64 = (0 : Int32) then
    (nm (x4 + (6 : Int32)) (fun v_611 =>
    f_L_law_L23 L xs rS k_ v_611 rP fP rT fT rG fG rL fL rH fH gi di re ti rPT fPT rTT fTT rGT fGT rLT fLT rHT fHT giT diT reT tiT fS rB_594 fB_595 rO fO pl fa cn ro Qh fo_596 al sv sm asd th_600 ho fr txt_601 tl_602 pos od nu su))
    else
    (some (0 : Int32))))
    else
    (nm (x4 + (6 : Int32)) (fun v_608 =>
    f_L_law_L23 L xs rS k_ v_608 rP fP rT fT rG fG rL fL rH fH gi di re ti rPT fPT rTT fTT rGT fGT rLT fLT rHT fHT giT diT reT tiT fS rB_594 fB_595 rO fO pl fa cn ro Qh fo_596 al sv sm asd th_600 ho fr txt_601 tl_602 pos od nu su)))
    else
    (some (0 : Int32))))))))
    else
    (if v_3 = (24 : Int32) then
    (bd2 (f_X5_clearText rB) (fun r_613 rB_614 =>
    bd3 (f_X6_clearText th tl) (fun r_616 th_617 tl_618 =>
    if r_613 = r_616 then
    (nm (x4 + (6 : Int32)) (fun v_621 =>
    f_L_law_L23 L xs rS k_ v_621 rP fP rT fT rG fG rL fL rH fH gi di re ti rPT fPT rTT fTT rGT fGT rLT fLT rHT fHT giT diT reT tiT fS rB_614 fB rO fO pl fa cn ro Qh fo al sv sm asd th_617 ho fr txt tl_618 pos od nu su))
    else
    (some (0 : Int32)))))
    else
    (if v_3 = (25 : Int32) then
    (bd18 (f_X5_carryOut rP fP rT fT rG fG rL fL rH fH gi di re ti rB fB rO fO pl fa cn ro Qh) (fun r_623 fP_624 rG_625 fG_626 rL_627 fL_628 fH_629 gi_630 di_631 re_632 ti_633 rO_634 fO_635 pl_636 fa_637 cn_638 ro_639 Qh_640 =>
    bd9 (f_X6_carryOut al sv sm th ho txt tl pos od nu) (fun r_642 al_643 sv_644 sm_645 th_646 ho_647 pos_648 od_649 nu_650 =>
    if r_623 = r_642 then
    (nm (x4 + (6 : Int32)) (fun v_653 =>
    f_L_law_L23 L xs rS k_ v_653 rP fP_624 rT fT rG_625 fG_626 rL_627 fL_628 rH fH_629 gi_630 di_631 re_632 ti_633 rPT fPT rTT fTT rGT fGT rLT fLT rHT fHT giT diT reT tiT fS rB fB rO_634 fO_635 pl_636 fa_637 cn_638 ro_639 Qh_640 fo al_643 sv_644 sm_645 asd th_646 ho_647 fr txt tl pos_648 od_649 nu_650 su))
    else
    (some (0 : Int32)))))
    else
    (if v_3 = (26 : Int32) then
    (bd17 (f_L_undo rP fP rT fT rG fG rL fL rH fH gi di re ti cn ro Qh fo) (fun r_655 rP_656 fP_657 rT_658 fT_659 rG_660 fG_661 rL_662 fL_663 rH_664 fH_665 gi_666 di_667 re_668 ti_669 cn_670 fo_671 =>
    bd4 (f_X6_undo al sv sm th) (fun r_673 al_674 sm_675 th_676 =>
    bd (f_X6_thrown th_676) (fun r_678 =>
    if r_678 = r_655 then
    (if r_655 = (0 : Int32) then
    (ix (0 : Int32) 1 (
    if lg_cmp (fo_671 (0 : Int32).toNatClampNeg) r_673.toInt64 = (0 : Int32) then
    (nm (x4 + (6 : Int32)) (fun v_685 =>
    f_L_law_L23 L xs rS k_ v_685 rP_656 fP_657 rT_658 fT_659 rG_660 fG_661 rL_662 fL_663 rH_664 fH_665 gi_666 di_667 re_668 ti_669 rPT fPT rTT fTT rGT fGT rLT fLT rHT fHT giT diT reT tiT fS rB fB rO fO pl fa cn_670 ro Qh fo_671 al_674 sv sm_675 asd th_676 ho fr txt tl pos od nu su))
    else
    (some (0 : Int32))))
    else
    (nm (x4 + (6 : Int32)) (fun v_682 =>
    f_L_law_L23 L xs rS k_ v_682 rP_656 fP_657 rT_658 fT_659 rG_660 fG_661 rL_662 fL_663 rH_664 fH_665 gi_666 di_667 re_668 ti_669 rPT fPT rTT fTT rGT fGT rLT fLT rHT fHT giT diT reT tiT fS rB fB rO fO pl fa cn_670 ro Qh fo_671 al_674 sv sm_675 asd th_676 ho fr txt tl pos od nu su)))
    else
    (some (0 : Int32))))))
    else
    (if v_3 = (27 : Int32) then
    (bd (f_X5_digest rP fP rT fT rG fG rL fL rH fH gi di re ti rB cn) (fun r_687 =>
    bd4 (f_X6_digest al sm th ho tl su) (fun r_689 th_690 ho_691 su_692 =>
    if lg_cmp r_687 r_689 = (0 : Int32) then
    (nm (x4 + (6 : Int32)) (fun v_695 =>
    f_L_law_L23 L xs rS k_ v_695 rP fP rT fT rG fG rL fL rH fH gi di re ti rPT fPT rTT fTT rGT fGT rLT fLT rHT fHT giT diT reT tiT fS rB fB rO fO pl fa cn ro Qh fo al sv sm asd th_690 ho_691 fr txt tl pos od nu su_692))
    else
    (some (0 : Int32)))))
    else
    (nm (x4 + (6 : Int32)) (fun v_696 =>
    f_L_law_L23 L xs rS k_ v_696 rP fP rT fT rG fG rL fL rH fH gi di re ti rPT fPT rTT fTT rGT fGT rLT fLT rHT fHT giT diT reT tiT fS rB fB rO fO pl fa cn ro Qh fo al sv sm asd th ho fr txt tl pos od nu su))))))))))))))))))))))))))))))))
