/-! what a call on a new object answers -/
def kz_write (i1 : Int32) : Int32 := if 0 ≤ i1.toInt ∧ i1.toInt ≤ 255 then 1 else -3
def kz_water (i1 : Int32) (i2 : Int32) : Int32 := if (0 ≤ i1.toInt ∧ i1.toInt ≤ 6) ∧ (0 ≤ i2.toInt ∧ i2.toInt ≤ 5) then 0 else -2
def kz_soap (i1 : Int32) : Int32 := if 1 ≤ i1.toInt ∧ i1.toInt ≤ 20 then i1 else -3
def kz_hour (i1 : Int32) : Int32 := if 1 ≤ i1.toInt ∧ i1.toInt ≤ 12 then i1 else -3
def kz_keep (i1 : Int32) : Int32 := if 0 ≤ i1.toInt ∧ i1.toInt ≤ 1 then 0 else -2
def kz_back (i1 : Int32) : Int32 := if 0 ≤ i1.toInt ∧ i1.toInt ≤ 1 then -4 else -2
def kz_later (i1 : Int32) (i2 : Int32) : Int32 := if 0 ≤ i1.toInt ∧ i1.toInt ≤ 6 then (if 0 ≤ i2.toInt ∧ i2.toInt ≤ 20 then 0 else -3) else -2
def kz_stands (i1 : Int32) (i2 : Int32) : Int32 := if 0 ≤ i1.toInt ∧ i1.toInt ≤ 63 then (if 0 ≤ i2.toInt ∧ i2.toInt ≤ 20 then (if i1.toInt = 0 then 0 else -1) else -3) else -2
def kz_plan (i1 : Int32) : Int32 := if i1.toInt = -1 then 0 else -2
def kz_needed (i1 : Int32) : Int32 := if i1.toInt = 0 then 0 else -2
def kz_pin (i1 : Int32) (i2 : Int32) (i3 : Int32) (i4 : Int32) : Int32 := if 0 ≤ i1.toInt ∧ i1.toInt ≤ 2 then (if i3.toInt = 0 then -2 else if (0 ≤ i3.toInt ∧ i3.toInt ≤ 2) ∧ (i3.toInt = 1 → -999 ≤ i4.toInt ∧ i4.toInt ≤ 999) then -11 else -3) else -2
def kz_peg (i1 : Int32) (i2 : Int32) (i3 : Int32) : Int32 := if 0 ≤ i1.toInt ∧ i1.toInt ≤ 2 then (if 0 ≤ i3.toInt ∧ i3.toInt ≤ 2 then -11 else -3) else -2
def kz_move (i1 : Int32) (i2 : Int32) (i3 : Int32) (i4 : Int32) (i5 : Int32) : Int32 := if (0 ≤ i1.toInt ∧ i1.toInt ≤ 2) ∧ (0 ≤ i3.toInt ∧ i3.toInt ≤ 2) then -11 else -2
def kz_row (i1 : Int32) : Int32 := if 0 ≤ i1.toInt ∧ i1.toInt ≤ 2 then -11 else -2
def kz_count (i1 : Int32) : Int32 := if 0 ≤ i1.toInt ∧ i1.toInt ≤ 13 then (if i1.toInt = 12 then 8 else 0) else -3
theorem kst_end {b m i1 i2 : Int32} (h : (b.toInt = -1 ∧ (i1.toInt ≠ 0 ∨ m.toInt = 0)) ∨ (b.toInt = 0 ∧ i1.toInt = 0 ∧ 1 ≤ m.toInt)) (hm : 128 ≤ m.toInt) (h1 : 0 ≤ i1.toInt ∧ i1.toInt ≤ 63) (h2 : 0 ≤ i2.toInt ∧ i2.toInt ≤ 20) : b = kz_stands i1 i2 := by
  unfold kz_stands
  rw [if_pos h1, if_pos h2]
  rcases h with ⟨e, h⟩ | ⟨e, e2, -⟩
  · rw [if_neg (by omega)]
    exact Int32.toInt_inj.mp (e.trans (by decide))
  · rw [if_pos e2]
    exact Int32.toInt_inj.mp (e.trans (by decide))
