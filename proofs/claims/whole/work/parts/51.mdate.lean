/-! the model's dates -/
def dEra (d : Int) : Int := (d + 730425) % 146097
def dY (d : Int) : Int := (dEra d - dEra d / 1460 + dEra d / 36524 - dEra d / 146096) / 365
def dIn (d : Int) : Int := dEra d - (365 * dY d + dY d / 4 - dY d / 100)
def dPart (d : Int) : Int := (5 * dIn d + 2) / 153
def dDay (d : Int) : Int := dIn d - (153 * dPart d + 2) / 5 + 1
def dMon (d : Int) : Int := if dPart d < 10 then dPart d + 3 else dPart d - 9
def dYear (d : Int) : Int := dY d + 400 * ((d + 730425) / 146097) + (if dMon d ≤ 2 then 1 else 0)
def leapB (y : Int) : Bool := decide (y % 4 = 0) && (decide (y % 100 ≠ 0) || decide (y % 400 = 0))
def dLen (y mo : Int) : Int := if mo = 2 then (if leapB y then 29 else 28) else if mo = 4 ∨ mo = 6 ∨ mo = 9 ∨ mo = 11 then 30 else 31
def dAgree (d : Int) : Bool := decide (dDay d = d - stOf (moOf d) + 1) && decide (dMon d = moOf d % 12 + 1) && decide (dYear d = 2000 + moOf d / 12) && decide (dLen (dYear d) (dMon d) = stOf (moOf d + 1) - stOf (moOf d)) && decide (0 ≤ dEra d ∧ 0 ≤ dY d ∧ dY d ≤ 399 ∧ 0 ≤ dIn d ∧ dIn d ≤ 366 ∧ 0 ≤ dPart d ∧ dPart d ≤ 11)
/-- one month at a time: both calendars step alike -/
def dChk (a n : Nat) : Bool := (List.range n).all (fun i => dAgree ((i : Int) + a - 1000))
