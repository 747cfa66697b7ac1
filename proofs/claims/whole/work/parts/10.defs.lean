def fX10_isWithin (x0 : Int32) (x1 : Int32) (x2 : Int32) : Option (Int32) :=
  (if x0 < x1 then
  some (0 : Int32)
else
  (if x2 < x0 then
  some (0 : Int32)
else
  some (1 : Int32)))
def fX10_isQuestion (x0 : Int32) : Option (Int32) :=
  (fX10_isWithin x0 (0 : Int32) (11 : Int32)).bind fun v1 =>
  (rubz v1).bind fun _ => some v1
def fX10_finding (x1 : Int32) (A : ruA) : Option (Int32 × ruA) :=
  (fX10_isWithin ((-1000001 : Int32) - x1) (0 : Int32) (6 : Int32)).bind fun v1 =>
  ((if v1 = 0 then
  some A
else
  (ruld (A.1 82) 7 ((-1000001 : Int32) - x1)).bind fun v3 =>
  (rust A 82 7 ((-1000001 : Int32) - x1) (v3 + (1 : Int32))).bind fun A4 =>
  some A4)).bind fun A2 =>
  some (x1, A2)
def fX10_question (x1 : Int32) (x2 : Int32) (x3 : Int32) (A : ruA) : Option (Int32 × ruA) :=
  (fX10_isQuestion x1).bind fun v1 =>
  (if v1 = 0 then
  ruB2 (fX10_finding (-1000001 : Int32) A) fun v2 A3 =>
  some (v2, A3)
else
  (fX10_isWithin x2 (0 : Int32) (1 : Int32)).bind fun v4 =>
  (if v4 = 0 then
  ruB2 (fX10_finding (-1000001 : Int32) A) fun v5 A6 =>
  some (v5, A6)
else
  ((if x2 = 0 then
  some (3 : Int32)
else
  some (9 : Int32))).bind fun v7 =>
  (fX10_isWithin x3 (0 : Int32) v7).bind fun v8 =>
  (if v8 = 0 then
  ruB2 (fX10_finding (-1000001 : Int32) A) fun v13 A14 =>
  some (v13, A14)
else
  ((if x2 = 0 then
  some (3 : Nat)
else
  some (4 : Nat))).bind fun v9 =>
  (rudI v9).bind fun n11 =>
  (ruld (A.1 v9) n11 x1).bind fun v10 =>
  (rust A v9 n11 x1 x3).bind fun A12 =>
  some (v10, A12))))
def fX10_room (A : ruA) : Option (Int32 × ruA) :=
  (if (A.1 2 1) < (6 : Int32) then
  (some (ruset A 2 1 ((A.1 2 1) + (1 : Int32)))).bind fun A1 =>
  some (((A1.1 2 1) - (1 : Int32)), A1)
else
  ruB2 (fX10_finding (-1000002 : Int32) A) fun v2 A3 =>
  some (v2, A3))
def fX10_isRoom (x1 : Int32) (A : ruA) : Option (Int32) :=
  (fX10_isWithin x1 (0 : Int32) ((A.1 2 1) - (1 : Int32))).bind fun v1 =>
  (rubz v1).bind fun _ => some v1
def fX5_isTaken_l2 {β : Type} (x1 : Int32) (x2 : Int32) (A : ruA) (k30 : Option (β)) (k38 : Option (β)) : Nat → Int32 → Option (β)
  | 0, _ => none
  | n + 1, x3 =>
  (if (A.1 2 2) ≤ x3 then
  k38
else
  (ruld (A.1 5) 24 x3).bind fun v1 =>
  (if v1 = x1 then
  (ruld (A.1 6) 24 x3).bind fun v2 =>
  (if v2 = x2 then
  k30
else
  fX5_isTaken_l2 x1 x2 A k30 k38 n (x3 + (1 : Int32)))
else
  fX5_isTaken_l2 x1 x2 A k30 k38 n (x3 + (1 : Int32))))
def fX5_isTaken (x1 : Int32) (x2 : Int32) (A : ruA) : Option (Int32) :=
  fX5_isTaken_l2 x1 x2 A
  (some (1 : Int32))
  (some (0 : Int32)) ruF (0 : Int32)
def fX5_seated (x1 : Int32) (x2 : Int32) (A : ruA) : Option (Int32 × ruA) :=
  (rust A 5 24 (A.1 2 2) x1).bind fun A1 =>
  (rust A1 6 24 (A.1 2 2) x2).bind fun A2 =>
  (some (ruset A2 2 2 ((A2.1 2 2) + (1 : Int32)))).bind fun A3 =>
  some ((A.1 2 2), A3)
def fX10_child (x1 : Int32) (x2 : Int32) (A : ruA) : Option (Int32 × ruA) :=
  (fX10_isRoom x1 A).bind fun v1 =>
  (if v1 = 0 then
  ruB2 (fX10_finding (-1000001 : Int32) A) fun v2 A3 =>
  some (v2, A3)
else
  (fX10_isWithin x2 (0 : Int32) (19 : Int32)).bind fun v4 =>
  (if v4 = 0 then
  ruB2 (fX10_finding (-1000001 : Int32) A) fun v12 A13 =>
  some (v12, A13)
else
  (fX5_isTaken x1 x2 A).bind fun v5 =>
  (if v5 = 0 then
  (if (A.1 2 2) < (24 : Int32) then
  ruB2 (fX5_seated x1 x2 A) fun v6 A7 =>
  some (v6, A7)
else
  ruB2 (fX10_finding (-1000002 : Int32) A) fun v8 A9 =>
  some (v8, A9))
else
  ruB2 (fX10_finding (-1000005 : Int32) A) fun v10 A11 =>
  some (v10, A11))))
def fX10_isChild (x1 : Int32) (A : ruA) : Option (Int32) :=
  (fX10_isWithin x1 (0 : Int32) ((A.1 2 2) - (1 : Int32))).bind fun v1 =>
  (rubz v1).bind fun _ => some v1
def fX5_learns (x1 : Int32) (x2 : Int32) (x3 : Int32) (A : ruA) : Option (Int32 × ruA) :=
  (ruld (A.1 7) 24 x1).bind fun v1 =>
  (ruld (A.1 8) 24 x1).bind fun v2 =>
  (rust A 7 24 x1 (v1 ||| ((1 : Int32) <<< (x2 &&& 31)))).bind fun A3 =>
  ((if x3 = 0 then
  some A3
else
  (rust A3 8 24 x1 (v2 ||| ((1 : Int32) <<< (x2 &&& 31)))).bind fun A5 =>
  some A5)).bind fun A4 =>
  (ruld (A4.1 7) 24 x1).bind fun v6 =>
  (if v6 = v1 then
  (ruld (A4.1 8) 24 x1).bind fun v7 =>
  (if v7 = v2 then
  some ((0 : Int32), A4)
else
  some ((1 : Int32), A4))
else
  some ((1 : Int32), A4))
def fX10_learn (x1 : Int32) (x2 : Int32) (x3 : Int32) (A : ruA) : Option (Int32 × ruA) :=
  (fX10_isChild x1 A).bind fun v1 =>
  (if v1 = 0 then
  ruB2 (fX10_finding (-1000001 : Int32) A) fun v2 A3 =>
  some (v2, A3)
else
  (fX10_isQuestion x2).bind fun v4 =>
  (if v4 = 0 then
  ruB2 (fX10_finding (-1000001 : Int32) A) fun v7 A8 =>
  some (v7, A8)
else
  ruB2 (fX5_learns x1 x2 x3 A) fun v5 A6 =>
  (if v5 = 0 then
  some ((0 : Int32), A6)
else
  some ((1 : Int32), A6))))
def fX10_has (x0 : Int32) (x1 : Int32) : Option (Int32) :=
  (if ((ruushr x0 x1) &&& (1 : Int32)) = (1 : Int32) then
  some (1 : Int32)
else
  some (0 : Int32))
def fX5_forgets (x1 : Int32) (x2 : Int32) (A : ruA) : Option (Int32 × ruA) :=
  (ruld (A.1 7) 24 x1).bind fun v1 =>
  (fX10_has v1 x2).bind fun v2 =>
  (ruld (A.1 7) 24 x1).bind fun v3 =>
  (rust A 7 24 x1 (v3 &&& (((1 : Int32) <<< (x2 &&& 31)) ^^^ (-1 : Int32)))).bind fun A4 =>
  (ruld (A4.1 8) 24 x1).bind fun v5 =>
  (rust A4 8 24 x1 (v5 &&& (((1 : Int32) <<< (x2 &&& 31)) ^^^ (-1 : Int32)))).bind fun A6 =>
  (rubz v2).bind fun _ => some (v2, A6)
def fX10_forget (x1 : Int32) (x2 : Int32) (A : ruA) : Option (Int32 × ruA) :=
  (fX10_isChild x1 A).bind fun v1 =>
  (if v1 = 0 then
  ruB2 (fX10_finding (-1000001 : Int32) A) fun v2 A3 =>
  some (v2, A3)
else
  (fX10_isQuestion x2).bind fun v4 =>
  (if v4 = 0 then
  ruB2 (fX10_finding (-1000001 : Int32) A) fun v7 A8 =>
  some (v7, A8)
else
  ruB2 (fX5_forgets x1 x2 A) fun v5 A6 =>
  (if v5 = 0 then
  some ((0 : Int32), A6)
else
  some ((1 : Int32), A6))))
def fX6_place (x0 : Int32) (x1 : Int32) : Option (Int32) :=
  some ((x0 * (6 : Int32)) + x1)
def fX6_howManyOf_l4 {β : Type} (x1 : Int32) (A : ruA) (k32 : Int32 → Option (β)) : Nat → Int32 → Int32 → Option (β)
  | 0, _, _ => none
  | n + 1, x2, x3 =>
  (if (6 : Int32) ≤ x3 then
  k32 x2
else
  (fX6_place x1 x3).bind fun v1 =>
  (ruld (A.1 10) 144 v1).bind fun v2 =>
  ((if v2 = 0 then
  some x2
else
  some (x2 + (1 : Int32)))).bind fun v3 =>
  fX6_howManyOf_l4 x1 A k32 n v3 (x3 + (1 : Int32)))
def fX6_howManyOf (x1 : Int32) (A : ruA) : Option (Int32) :=
  fX6_howManyOf_l4 x1 A
  (fun v4 => some v4) ruF (0 : Int32) (0 : Int32)
def fX10_childIs (x1 : Int32) (x2 : Int32) (A : ruA) : Option (Int32 × ruA) :=
  (fX10_isChild x1 A).bind fun v1 =>
  (if v1 = 0 then
  ruB2 (fX10_finding (-1000001 : Int32) A) fun v2 A3 =>
  some (v2, A3)
else
  (fX10_isWithin x2 (0 : Int32) (4 : Int32)).bind fun v4 =>
  (if v4 = 0 then
  ruB2 (fX10_finding (-1000001 : Int32) A) fun v10 A11 =>
  some (v10, A11)
else
  (if x2 = (0 : Int32) then
  (ruld (A.1 5) 24 x1).bind fun v5 =>
  some (v5, A)
else
  (if x2 = (1 : Int32) then
  (ruld (A.1 6) 24 x1).bind fun v6 =>
  some (v6, A)
else
  (if x2 = (2 : Int32) then
  (ruld (A.1 7) 24 x1).bind fun v7 =>
  some (v7, A)
else
  (if x2 = (3 : Int32) then
  (ruld (A.1 8) 24 x1).bind fun v8 =>
  some (v8, A)
else
  (fX6_howManyOf x1 A).bind fun v9 =>
  some (v9, A)))))))
def fX10_year (A : ruA) : Option (Int32 × ruA) :=
  (if (A.1 2 0) < (5 : Int32) then
  (some (ruset A 2 0 ((A.1 2 0) + (1 : Int32)))).bind fun A1 =>
  some ((A1.1 2 0), A1)
else
  ruB2 (fX10_finding (-1000002 : Int32) A) fun v2 A3 =>
  some (v2, A3))
def fX10_openSheet (x1 : Int32) (A : ruA) : Option (Int32) :=
  (fX6_place x1 (A.1 2 0)).bind fun v1 =>
  some v1
def fJ7_rangeCheck_23922 (x0 : Int32) (x1 : Int32) (x2 : Int32) : Option (Unit) :=
  (if x1 ≤ x2 then
  (if 0 ≤ x1 then
  (if x2 ≤ x0 then
  some ()
else
  none)
else
  none)
else
  none)
def fJ7_fill_fda19_l10 {β : Type} (x0 : Nat) (x2 : Int32) (x3 : Int32) (k27 : ruA → Option (β)) : Nat → Int32 → ruA → Option (β)
  | 0, _, _ => none
  | n + 1, x4, A =>
  (if x2 ≤ x4 then
  k27 A
else
  (rudI x0).bind fun n2 =>
  (rust A x0 n2 x4 x3).bind fun A3 =>
  fJ7_fill_fda19_l10 x0 x2 x3 k27 n (x4 + (1 : Int32)) A3)
def fJ7_fill_fda19 (x0 : Nat) (x1 : Int32) (x2 : Int32) (x3 : Int32) (A : ruA) : Option (ruA) :=
  (rudI x0).bind fun n1 =>
  (fJ7_rangeCheck_23922 (Int32.ofNat n1) x1 x2).bind fun _ =>
  fJ7_fill_fda19_l10 x0 x2 x3
  (fun A4 => some A4) ruF x1 A
def fX6_begin (x1 : Int32) (A : ruA) : Option (ruA) :=
  (rust A 10 144 x1 ((1 : Int32) &&& 1)).bind fun A1 =>
  (fJ7_fill_fda19 11 (x1 * (12 : Int32)) ((x1 + (1 : Int32)) * (12 : Int32)) (-1 : Int32) A1).bind fun A2 =>
  (fJ7_fill_fda19 12 (x1 * (12 : Int32)) ((x1 + (1 : Int32)) * (12 : Int32)) (0 : Int32) A2).bind fun A3 =>
  (fJ7_fill_fda19 13 (x1 * (3 : Int32)) ((x1 + (1 : Int32)) * (3 : Int32)) (0 : Int32) A3).bind fun A4 =>
  some A4
def fX6_rubbing (x0 : Int32) (x1 : Int32) (x2 : Int32) : Option (Int32) :=
  (if x0 = x2 then
  some (1 : Int32)
else
  (if x1 = x2 then
  some (0 : Int32)
else
  some (2 : Int32)))
def fX6_marked (x1 : Int32) (x2 : Int32) (x3 : Int32) (x4 : Int32) (x5 : Int32) (A : ruA) : Option (Int32 × ruA) :=
  (ruld (A.1 11) 1728 ((x1 * (12 : Int32)) + x2)).bind fun v1 =>
  (if v1 = x4 then
  some ((0 : Int32), A)
else
  ((if v1 = (-1 : Int32) then
  some A
else
  (fX6_rubbing v1 x4 x5).bind fun v3 =>
  (ruld (A.1 13) 432 ((x1 * (3 : Int32)) + v3)).bind fun v4 =>
  (rust A 13 432 ((x1 * (3 : Int32)) + v3) (v4 + (1 : Int32))).bind fun A5 =>
  some A5)).bind fun A2 =>
  (rust A2 11 1728 ((x1 * (12 : Int32)) + x2) x4).bind fun A6 =>
  (rust A6 12 1728 ((x1 * (12 : Int32)) + x2) x3).bind fun A7 =>
  some ((1 : Int32), A7))
def fX10_marks (x1 : Int32) (x2 : Int32) (x3 : Int32) (x4 : Int32) (A : ruA) : Option (Int32 × ruA) :=
  (ruld (A.1 3) 12 x2).bind fun v1 =>
  ruB2 (fX6_marked x1 x2 x3 x4 v1 A) fun v2 A3 =>
  (rubz v2).bind fun _ => some (v2, A3)
def fX10_answerAll_l6 {β : Type} (x1 : Int32) (x2 : Int32) (k136 : ruA → Option (β)) : Nat → Int32 → Int32 → ruA → Option (β)
  | 0, _, _, _ => none
  | n + 1, x4, x5, A =>
  (if (12 : Int32) ≤ x5 then
  k136 A
else
  (ruld (A.1 8) 24 x1).bind fun v1 =>
  (fX10_has v1 x5).bind fun v2 =>
  ruB2 ((if v2 = 0 then
  (ruld (A.1 7) 24 x1).bind fun v5 =>
  (fX10_has v5 x5).bind fun v6 =>
  (if v6 = 0 then
  (if (4 : Int32) ≤ ((ruushr ((x4 * (1103515245 : Int32)) + (12345 : Int32)) (16 : Int32)) - (ruushr ((x4 * (1103515245 : Int32)) + (12345 : Int32)) (16 : Int32)) / (5 : Int32) * (5 : Int32)) then
  some (((x4 * (1103515245 : Int32)) + (12345 : Int32)), A)
else
  ruB2 (fX10_marks x2 x5 (7 : Int32) ((ruushr ((x4 * (1103515245 : Int32)) + (12345 : Int32)) (16 : Int32)) - (ruushr ((x4 * (1103515245 : Int32)) + (12345 : Int32)) (16 : Int32)) / (5 : Int32) * (5 : Int32)) A) fun v7 A8 =>
  some (((x4 * (1103515245 : Int32)) + (12345 : Int32)), A8))
else
  (ruld (A.1 3) 12 x5).bind fun v9 =>
  ruB2 (fX10_marks x2 x5 (1 : Int32) v9 A) fun v10 A11 =>
  some (x4, A11))
else
  (ruld (A.1 3) 12 x5).bind fun v12 =>
  ruB2 (fX10_marks x2 x5 (2 : Int32) v12 A) fun v13 A14 =>
  some (x4, A14))) fun v3 A4 =>
  fX10_answerAll_l6 x1 x2 k136 n v3 (x5 + (1 : Int32)) A4)
def fX10_answerAll (x1 : Int32) (x2 : Int32) (x3 : Int32) (A : ruA) : Option (ruA) :=
  fX10_answerAll_l6 x1 x2
  (fun A15 => some A15) ruF x3 (0 : Int32) A
def fX6_choiceAt (x1 : Int32) (x2 : Int32) (A : ruA) : Option (Int32) :=
  (ruld (A.1 11) 1728 ((x1 * (12 : Int32)) + x2)).bind fun v1 =>
  some v1
def fX6_rights_l5 {β : Type} (x1 : Int32) (A : ruA) (k35 : Int32 → Option (β)) : Nat → Int32 → Int32 → Option (β)
  | 0, _, _ => none
  | n + 1, x3, x4 =>
  (if (12 : Int32) ≤ x4 then
  k35 x3
else
  (fX6_choiceAt x1 x4 A).bind fun v1 =>
  (ruld (A.1 3) 12 x4).bind fun v2 =>
  ((if v1 = v2 then
  some (x3 + (1 : Int32))
else
  some x3)).bind fun v3 =>
  fX6_rights_l5 x1 A k35 n v3 (x4 + (1 : Int32)))
def fX6_rights (x1 : Int32) (A : ruA) : Option (Int32) :=
  fX6_rights_l5 x1 A
  (fun v4 => some v4) ruF (0 : Int32) (0 : Int32)
def fX10_sit (x1 : Int32) (x2 : Int32) (A : ruA) : Option (Int32 × ruA) :=
  (fX10_isChild x1 A).bind fun v1 =>
  (if v1 = 0 then
  ruB2 (fX10_finding (-1000001 : Int32) A) fun v9 A10 =>
  some (v9, A10)
else
  (fX10_openSheet x1 A).bind fun v2 =>
  (ruld (A.1 10) 144 v2).bind fun v3 =>
  (if v3 = 0 then
  (fX6_begin v2 A).bind fun A4 =>
  (fX10_answerAll x1 v2 x2 A4).bind fun A5 =>
  (fX6_rights v2 A5).bind fun v6 =>
  some (v6, A5)
else
  ruB2 (fX10_finding (-1000005 : Int32) A) fun v7 A8 =>
  some (v7, A8)))
def fX10_isSlip (x0 : Int32) : Option (Int32) :=
  (fX10_isWithin x0 (0 : Int32) (3 : Int32)).bind fun v1 =>
  (rubz v1).bind fun _ => some v1
def fX7_isMissing (x0 : Nat) (A : ruA) : Option (Int32) :=
  (rudO x0 7).bind fun _ =>
  (if (A.1 x0 0) = 0 then
  some (1 : Int32)
else
  some (0 : Int32))
def fX7_areWithin_l2 {β : Type} (x0 : Nat) (x1 : Int32) (x2 : Int32) (A : ruA) (k24 : Option (β)) (k32 : Option (β)) : Nat → Int32 → Option (β)
  | 0, _ => none
  | n + 1, x3 =>
  (rudO x0 7).bind fun _ =>
  (if (A.1 x0 1) ≤ x3 then
  k32
else
  (ruref A x0 2).bind fun c2 =>
  (rudI c2).bind fun n4 =>
  (ruld (A.1 c2) n4 x3).bind fun v3 =>
  (fX10_isWithin v3 x1 x2).bind fun v5 =>
  (if v5 = 0 then
  k24
else
  fX7_areWithin_l2 x0 x1 x2 A k24 k32 n (x3 + (1 : Int32))))
def fX7_areWithin (x0 : Nat) (x1 : Int32) (x2 : Int32) (A : ruA) : Option (Int32) :=
  fX7_areWithin_l2 x0 x1 x2 A
  (some (0 : Int32))
  (some (1 : Int32)) ruF (0 : Int32)
def fX10_read_l114 {β : Type} (x3 : Nat) (x4 : Int32) (k144 : ruA → Option (β)) : Nat → Int32 → ruA → Option (β)
  | 0, _, _ => none
  | n + 1, x5, A =>
  (if (12 : Int32) ≤ x5 then
  k144 A
else
  (rudO x3 7).bind fun _ =>
  (ruref A x3 2).bind fun c13 =>
  (rudI c13).bind fun n15 =>
  (ruld (A.1 c13) n15 x5).bind fun v14 =>
  ruB2 (fX10_marks x4 x5 (0 : Int32) v14 A) fun v16 A17 =>
  fX10_read_l114 x3 x4 k144 n (x5 + (1 : Int32)) A17)
def fX10_read (x1 : Int32) (x2 : Int32) (A : ruA) : Option (Int32 × ruA) :=
  (fX10_isChild x1 A).bind fun v1 =>
  (if v1 = 0 then
  ruB2 (fX10_finding (-1000001 : Int32) A) fun v2 A3 =>
  some (v2, A3)
else
  (fX10_isSlip x2).bind fun v4 =>
  (if v4 = 0 then
  ruB2 (fX10_finding (-1000001 : Int32) A) fun v28 A29 =>
  some (v28, A29)
else
  (rulr A 73 4 x2).bind fun c5 =>
  (rudO c5 7).bind fun _ =>
  (fX7_isMissing c5 A).bind fun v7 =>
  (if v7 = 0 then
  (if (A.1 c5 1) = (12 : Int32) then
  (fX7_areWithin c5 (-1 : Int32) (3 : Int32) A).bind fun v8 =>
  (if v8 = 0 then
  ruB2 (fX10_finding (-1000001 : Int32) A) fun v22 A23 =>
  some (v22, A23)
else
  (fX10_openSheet x1 A).bind fun v9 =>
  (ruld (A.1 10) 144 v9).bind fun v10 =>
  (if v10 = 0 then
  (fX6_begin v9 A).bind fun A11 =>
  fX10_read_l114 c5 v9
  (fun A18 => (fX6_rights v9 A18).bind fun v19 =>
  some (v19, A18)) ruF (0 : Int32) A11
else
  ruB2 (fX10_finding (-1000005 : Int32) A) fun v20 A21 =>
  some (v20, A21)))
else
  ruB2 (fX10_finding (-1000007 : Int32) A) fun v24 A25 =>
  some (v24, A25))
else
  ruB2 (fX10_finding (-1000006 : Int32) A) fun v26 A27 =>
  some (v26, A27))))
def fX10_isKind (x0 : Int32) : Option (Int32) :=
  (fX10_isWithin x0 (0 : Int32) (7 : Int32)).bind fun v1 =>
  (rubz v1).bind fun _ => some v1
def fX10_mark (x1 : Int32) (x2 : Int32) (x3 : Int32) (x4 : Int32) (A : ruA) : Option (Int32 × ruA) :=
  (fX10_isChild x1 A).bind fun v1 =>
  (if v1 = 0 then
  ruB2 (fX10_finding (-1000001 : Int32) A) fun v2 A3 =>
  some (v2, A3)
else
  (fX10_isQuestion x2).bind fun v4 =>
  (if v4 = 0 then
  ruB2 (fX10_finding (-1000001 : Int32) A) fun v5 A6 =>
  some (v5, A6)
else
  (fX10_isKind x3).bind fun v7 =>
  (if v7 = 0 then
  ruB2 (fX10_finding (-1000001 : Int32) A) fun v8 A9 =>
  some (v8, A9)
else
  (fX10_isWithin x4 (-1 : Int32) (3 : Int32)).bind fun v10 =>
  (if v10 = 0 then
  ruB2 (fX10_finding (-1000001 : Int32) A) fun v17 A18 =>
  some (v17, A18)
else
  (fX10_openSheet x1 A).bind fun v11 =>
  (ruld (A.1 10) 144 v11).bind fun v12 =>
  (if v12 = 0 then
  ruB2 (fX10_finding (-1000005 : Int32) A) fun v15 A16 =>
  some (v15, A16)
else
  ruB2 (fX10_marks v11 x2 x3 x4 A) fun v13 A14 =>
  (if v13 = 0 then
  some ((0 : Int32), A14)
else
  some ((1 : Int32), A14)))))))
def fX5_areNeighbours (x1 : Int32) (x2 : Int32) (A : ruA) : Option (Int32) :=
  (ruld (A.1 5) 24 x1).bind fun v1 =>
  (ruld (A.1 5) 24 x2).bind fun v2 =>
  (if v1 = v2 then
  (ruld (A.1 6) 24 x1).bind fun v3 =>
  (ruld (A.1 6) 24 x2).bind fun v4 =>
  (if (ruabs (v3 - v4)) = (1 : Int32) then
  some (1 : Int32)
else
  some (0 : Int32))
else
  some (0 : Int32))
def fX10_copies_l86 {β : Type} (x3 : Int32) (x4 : Int32) (k134 : Int32 → ruA → Option (β)) : Nat → Int32 → Int32 → ruA → Option (β)
  | 0, _, _, _ => none
  | n + 1, x5, x6, A =>
  (if (12 : Int32) ≤ x6 then
  k134 x5 A
else
  (fX6_choiceAt x4 x6 A).bind fun v14 =>
  ruB2 ((if v14 = (-1 : Int32) then
  some (x5, A)
else
  ruB2 (fX10_marks x3 x6 (3 : Int32) v14 A) fun v17 A18 =>
  (if v17 = 0 then
  some (x5, A18)
else
  some ((x5 + (1 : Int32)), A18)))) fun v15 A16 =>
  fX10_copies_l86 x3 x4 k134 n v15 (x6 + (1 : Int32)) A16)
def fX10_copies (x1 : Int32) (x2 : Int32) (A : ruA) : Option (Int32 × ruA) :=
  (fX10_isChild x1 A).bind fun v1 =>
  (if v1 = 0 then
  ruB2 (fX10_finding (-1000001 : Int32) A) fun v2 A3 =>
  some (v2, A3)
else
  (fX10_isChild x2 A).bind fun v4 =>
  (if v4 = 0 then
  ruB2 (fX10_finding (-1000001 : Int32) A) fun v23 A24 =>
  some (v23, A24)
else
  (fX10_openSheet x1 A).bind fun v5 =>
  (fX10_openSheet x2 A).bind fun v6 =>
  (ruld (A.1 10) 144 v5).bind fun v7 =>
  (if v7 = 0 then
  ruB2 (fX10_finding (-1000005 : Int32) A) fun v8 A9 =>
  some (v8, A9)
else
  (ruld (A.1 10) 144 v6).bind fun v10 =>
  (if v10 = 0 then
  ruB2 (fX10_finding (-1000005 : Int32) A) fun v11 A12 =>
  some (v11, A12)
else
  (fX5_areNeighbours x1 x2 A).bind fun v13 =>
  (if v13 = 0 then
  ruB2 (fX10_finding (-1000005 : Int32) A) fun v21 A22 =>
  some (v21, A22)
else
  fX10_copies_l86 v5 v6
  (fun v19 A20 => some (v19, A20)) ruF (0 : Int32) (0 : Int32) A)))))
def fX10_sitsIn (x1 : Int32) (x2 : Int32) (A : ruA) : Option (Int32) :=
  (ruld (A.1 5) 24 x1).bind fun v1 =>
  (if v1 = x2 then
  (fX10_openSheet x1 A).bind fun v2 =>
  (ruld (A.1 10) 144 v2).bind fun v3 =>
  (if v3 = 0 then
  some (0 : Int32)
else
  some (1 : Int32))
else
  some (0 : Int32))
def fX10_said_l27 {β : Type} (x1 : Int32) (x2 : Int32) (k82 : Int32 → ruA → Option (β)) : Nat → Int32 → Int32 → ruA → Option (β)
  | 0, _, _, _ => none
  | n + 1, x3, x4, A =>
  (if (A.1 2 2) ≤ x4 then
  k82 x3 A
else
  (fX10_sitsIn x4 x1 A).bind fun v5 =>
  ruB2 ((if v5 = 0 then
  some (x3, A)
else
  (fX10_openSheet x4 A).bind fun v8 =>
  (ruld (A.1 3) 12 x2).bind fun v9 =>
  ruB2 (fX10_marks v8 x2 (4 : Int32) v9 A) fun v10 A11 =>
  (if v10 = 0 then
  some (x3, A11)
else
  some ((x3 + (1 : Int32)), A11)))) fun v6 A7 =>
  fX10_said_l27 x1 x2 k82 n v6 (x4 + (1 : Int32)) A7)
def fX10_said (x1 : Int32) (x2 : Int32) (A : ruA) : Option (Int32 × ruA) :=
  (fX10_isRoom x1 A).bind fun v1 =>
  (if v1 = 0 then
  ruB2 (fX10_finding (-1000001 : Int32) A) fun v2 A3 =>
  some (v2, A3)
else
  (fX10_isQuestion x2).bind fun v4 =>
  (if v4 = 0 then
  ruB2 (fX10_finding (-1000001 : Int32) A) fun v14 A15 =>
  some (v14, A15)
else
  fX10_said_l27 x1 x2
  (fun v12 A13 => some (v12, A13)) ruF (0 : Int32) (0 : Int32) A))
def fX10_putRight_l5 {β : Type} (x1 : Int32) (x2 : Int32) (k61 : Int32 → ruA → Option (β)) : Nat → Int32 → Int32 → ruA → Option (β)
  | 0, _, _, _ => none
  | n + 1, x3, x4, A =>
  (if (12 : Int32) ≤ x4 then
  k61 x3 A
else
  (if x2 ≤ x3 then
  k61 x3 A
else
  (fX6_choiceAt x1 x4 A).bind fun v1 =>
  ruB2 ((if v1 = (-1 : Int32) then
  some (x3, A)
else
  (ruld (A.1 3) 12 x4).bind fun v4 =>
  ruB2 (fX10_marks x1 x4 (5 : Int32) v4 A) fun v5 A6 =>
  (if v5 = 0 then
  some (x3, A6)
else
  some ((x3 + (1 : Int32)), A6)))) fun v2 A3 =>
  fX10_putRight_l5 x1 x2 k61 n v2 (x4 + (1 : Int32)) A3))
def fX10_putRight (x1 : Int32) (x2 : Int32) (A : ruA) : Option (Int32 × ruA) :=
  fX10_putRight_l5 x1 x2
  (fun v7 A8 => some (v7, A8)) ruF (0 : Int32) (0 : Int32) A
def fX10_puts_l30 {β : Type} (x1 : Int32) (x2 : Int32) (k79 : Int32 → ruA → Option (β)) : Nat → Int32 → Int32 → ruA → Option (β)
  | 0, _, _, _ => none
  | n + 1, x3, x4, A =>
  (if (A.1 2 2) ≤ x4 then
  k79 x3 A
else
  (if x2 ≤ x3 then
  k79 x3 A
else
  (fX10_sitsIn x4 x1 A).bind fun v5 =>
  ruB2 ((if v5 = 0 then
  some (x3, A)
else
  (fX10_openSheet x4 A).bind fun v8 =>
  ruB2 (fX10_putRight v8 (x2 - x3) A) fun v9 A10 =>
  some ((x3 + v9), A10))) fun v6 A7 =>
  fX10_puts_l30 x1 x2 k79 n v6 (x4 + (1 : Int32)) A7))
def fX10_puts (x1 : Int32) (x2 : Int32) (A : ruA) : Option (Int32 × ruA) :=
  (fX10_isRoom x1 A).bind fun v1 =>
  (if v1 = 0 then
  ruB2 (fX10_finding (-1000001 : Int32) A) fun v2 A3 =>
  some (v2, A3)
else
  (fX10_isWithin x2 (1 : Int32) (99 : Int32)).bind fun v4 =>
  (if v4 = 0 then
  ruB2 (fX10_finding (-1000001 : Int32) A) fun v13 A14 =>
  some (v13, A14)
else
  fX10_puts_l30 x1 x2
  (fun v11 A12 => some (v11, A12)) ruF (0 : Int32) (0 : Int32) A))
def fX10_fillBlanks_l4 {β : Type} (x1 : Int32) (k52 : Int32 → ruA → Option (β)) : Nat → Int32 → Int32 → ruA → Option (β)
  | 0, _, _, _ => none
  | n + 1, x2, x3, A =>
  (if (12 : Int32) ≤ x3 then
  k52 x2 A
else
  (fX6_choiceAt x1 x3 A).bind fun v1 =>
  ruB2 ((if v1 = (-1 : Int32) then
  (ruld (A.1 3) 12 x3).bind fun v4 =>
  ruB2 (fX10_marks x1 x3 (6 : Int32) v4 A) fun v5 A6 =>
  (if v5 = 0 then
  some (x2, A6)
else
  some ((x2 + (1 : Int32)), A6))
else
  some (x2, A))) fun v2 A3 =>
  fX10_fillBlanks_l4 x1 k52 n v2 (x3 + (1 : Int32)) A3)
def fX10_fillBlanks (x1 : Int32) (A : ruA) : Option (Int32 × ruA) :=
  fX10_fillBlanks_l4 x1
  (fun v7 A8 => some (v7, A8)) ruF (0 : Int32) (0 : Int32) A
def fX10_fills_l19 {β : Type} (x1 : Int32) (k57 : Int32 → ruA → Option (β)) : Nat → Int32 → Int32 → ruA → Option (β)
  | 0, _, _, _ => none
  | n + 1, x2, x3, A =>
  (if (A.1 2 2) ≤ x3 then
  k57 x2 A
else
  (fX10_sitsIn x3 x1 A).bind fun v2 =>
  ruB2 ((if v2 = 0 then
  some (x2, A)
else
  (fX10_openSheet x3 A).bind fun v5 =>
  ruB2 (fX10_fillBlanks v5 A) fun v6 A7 =>
  some ((x2 + v6), A7))) fun v3 A4 =>
  fX10_fills_l19 x1 k57 n v3 (x3 + (1 : Int32)) A4)
def fX10_fills (x1 : Int32) (A : ruA) : Option (Int32 × ruA) :=
  (fX10_isRoom x1 A).bind fun v1 =>
  (if v1 = 0 then
  ruB2 (fX10_finding (-1000001 : Int32) A) fun v10 A11 =>
  some (v10, A11)
else
  fX10_fills_l19 x1
  (fun v8 A9 => some (v8, A9)) ruF (0 : Int32) (0 : Int32) A)
def fX10_leaves (x1 : Int32) (A : ruA) : Option (Int32 × ruA) :=
  (fX10_isChild x1 A).bind fun v1 =>
  (if v1 = 0 then
  ruB2 (fX10_finding (-1000001 : Int32) A) fun v8 A9 =>
  some (v8, A9)
else
  (fX10_openSheet x1 A).bind fun v2 =>
  (ruld (A.1 10) 144 v2).bind fun v3 =>
  (if v3 = 0 then
  ruB2 (fX10_finding (-1000004 : Int32) A) fun v6 A7 =>
  some (v6, A7)
else
  (rust A 10 144 v2 ((0 : Int32) &&& 1)).bind fun A4 =>
  (fX6_rights v2 A4).bind fun v5 =>
  some (v5, A4)))
def fX10_isYear (x0 : Int32) : Option (Int32) :=
  (fX10_isWithin x0 (0 : Int32) (5 : Int32)).bind fun v1 =>
  (rubz v1).bind fun _ => some v1
def fX6_kindAt (x1 : Int32) (x2 : Int32) (A : ruA) : Option (Int32) :=
  (ruld (A.1 12) 1728 ((x1 * (12 : Int32)) + x2)).bind fun v1 =>
  some v1
def fX10_bubble (x1 : Int32) (x2 : Int32) (x3 : Int32) (x4 : Int32) (A : ruA) : Option (Int32 × ruA) :=
  (fX10_isChild x1 A).bind fun v1 =>
  (if v1 = 0 then
  ruB2 (fX10_finding (-1000001 : Int32) A) fun v2 A3 =>
  some (v2, A3)
else
  (fX10_isYear x2).bind fun v4 =>
  (if v4 = 0 then
  ruB2 (fX10_finding (-1000001 : Int32) A) fun v5 A6 =>
  some (v5, A6)
else
  (fX10_isQuestion x3).bind fun v7 =>
  (if v7 = 0 then
  ruB2 (fX10_finding (-1000001 : Int32) A) fun v8 A9 =>
  some (v8, A9)
else
  (fX10_isWithin x4 (0 : Int32) (2 : Int32)).bind fun v10 =>
  (if v10 = 0 then
  ruB2 (fX10_finding (-1000001 : Int32) A) fun v19 A20 =>
  some (v19, A20)
else
  (fX6_place x1 x2).bind fun v11 =>
  (ruld (A.1 10) 144 v11).bind fun v12 =>
  (if v12 = 0 then
  ruB2 (fX10_finding (-1000004 : Int32) A) fun v17 A18 =>
  some (v17, A18)
else
  (if x4 = (0 : Int32) then
  (fX6_choiceAt v11 x3 A).bind fun v13 =>
  some (v13, A)
else
  (if x4 = (1 : Int32) then
  (fX6_kindAt v11 x3 A).bind fun v14 =>
  some (v14, A)
else
  (fX6_choiceAt v11 x3 A).bind fun v15 =>
  (ruld (A.1 3) 12 x3).bind fun v16 =>
  (if v15 = v16 then
  some ((1 : Int32), A)
else
  some ((0 : Int32), A)))))))))
def fX6_filled_l4 {β : Type} (x1 : Int32) (A : ruA) (k29 : Int32 → Option (β)) : Nat → Int32 → Int32 → Option (β)
  | 0, _, _ => none
  | n + 1, x2, x3 =>
  (if (12 : Int32) ≤ x3 then
  k29 x2
else
  (fX6_choiceAt x1 x3 A).bind fun v1 =>
  ((if v1 = (-1 : Int32) then
  some x2
else
  some (x2 + (1 : Int32)))).bind fun v2 =>
  fX6_filled_l4 x1 A k29 n v2 (x3 + (1 : Int32)))
def fX6_filled (x1 : Int32) (A : ruA) : Option (Int32) :=
  fX6_filled_l4 x1 A
  (fun v3 => some v3) ruF (0 : Int32) (0 : Int32)
def fX6_rubbedAt (x1 : Int32) (x2 : Int32) (A : ruA) : Option (Int32) :=
  (ruld (A.1 13) 432 ((x1 * (3 : Int32)) + x2)).bind fun v1 =>
  some v1
def fX6_easierWrong_l6 {β : Type} (x1 : Int32) (x2 : Int32) (A : ruA) (k45 : Int32 → Option (β)) : Nat → Int32 → Int32 → Option (β)
  | 0, _, _ => none
  | n + 1, x5, x6 =>
  (if (12 : Int32) ≤ x6 then
  k45 x5
else
  (ruld (A.1 4) 12 x6).bind fun v1 =>
  ((if x2 ≤ v1 then
  some x5
else
  (fX6_choiceAt x1 x6 A).bind fun v3 =>
  (ruld (A.1 3) 12 x6).bind fun v4 =>
  (if v3 = v4 then
  some x5
else
  some (x5 + (1 : Int32))))).bind fun v2 =>
  fX6_easierWrong_l6 x1 x2 A k45 n v2 (x6 + (1 : Int32)))
def fX6_easierWrong (x1 : Int32) (x2 : Int32) (A : ruA) : Option (Int32) :=
  fX6_easierWrong_l6 x1 x2 A
  (fun v5 => some v5) ruF (0 : Int32) (0 : Int32)
def fX6_unfitPairs_l6 {β : Type} (x1 : Int32) (A : ruA) (k49 : Int32 → Option (β)) : Nat → Int32 → Int32 → Option (β)
  | 0, _, _ => none
  | n + 1, x4, x5 =>
  (if (12 : Int32) ≤ x5 then
  k49 x4
else
  (fX6_choiceAt x1 x5 A).bind fun v1 =>
  (ruld (A.1 3) 12 x5).bind fun v2 =>
  ((if v1 = v2 then
  (ruld (A.1 4) 12 x5).bind fun v4 =>
  (fX6_easierWrong x1 v4 A).bind fun v5 =>
  some (x4 + v5)
else
  some x4)).bind fun v3 =>
  fX6_unfitPairs_l6 x1 A k49 n v3 (x5 + (1 : Int32)))
def fX6_unfitPairs (x1 : Int32) (A : ruA) : Option (Int32) :=
  fX6_unfitPairs_l6 x1 A
  (fun v6 => some v6) ruF (0 : Int32) (0 : Int32)
def fX6_standingBy_l5 {β : Type} (x1 : Int32) (x2 : Int32) (A : ruA) (k50 : Int32 → Option (β)) : Nat → Int32 → Int32 → Option (β)
  | 0, _, _ => none
  | n + 1, x3, x4 =>
  (if (12 : Int32) ≤ x4 then
  k50 x3
else
  (fX6_choiceAt x1 x4 A).bind fun v1 =>
  ((if v1 = (-1 : Int32) then
  some x3
else
  (ruld (fun j => ruunder.getD j 0) 8 x2).bind fun v3 =>
  (fX6_kindAt x1 x4 A).bind fun v4 =>
  (fX10_has v3 v4).bind fun v5 =>
  (if v5 = 0 then
  some x3
else
  some (x3 + (1 : Int32))))).bind fun v2 =>
  fX6_standingBy_l5 x1 x2 A k50 n v2 (x4 + (1 : Int32)))
def fX6_standingBy (x1 : Int32) (x2 : Int32) (A : ruA) : Option (Int32) :=
  fX6_standingBy_l5 x1 x2 A
  (fun v6 => some v6) ruF (0 : Int32) (0 : Int32)
def fX10_sheetIs (x1 : Int32) (x2 : Int32) (x3 : Int32) (A : ruA) : Option (Int32 × ruA) :=
  (fX10_isChild x1 A).bind fun v1 =>
  (if v1 = 0 then
  ruB2 (fX10_finding (-1000001 : Int32) A) fun v2 A3 =>
  some (v2, A3)
else
  (fX10_isYear x2).bind fun v4 =>
  (if v4 = 0 then
  ruB2 (fX10_finding (-1000001 : Int32) A) fun v5 A6 =>
  some (v5, A6)
else
  (fX10_isWithin x3 (0 : Int32) (6 : Int32)).bind fun v7 =>
  (if v7 = 0 then
  ruB2 (fX10_finding (-1000001 : Int32) A) fun v19 A20 =>
  some (v19, A20)
else
  (fX6_place x1 x2).bind fun v8 =>
  (ruld (A.1 10) 144 v8).bind fun v9 =>
  (if v9 = 0 then
  ruB2 (fX10_finding (-1000004 : Int32) A) fun v17 A18 =>
  some (v17, A18)
else
  (if x3 = (0 : Int32) then
  (fX6_rights v8 A).bind fun v10 =>
  some (v10, A)
else
  (if x3 = (1 : Int32) then
  (fX6_filled v8 A).bind fun v11 =>
  some (((12 : Int32) - v11), A)
else
  (if x3 = (2 : Int32) then
  (fX6_rubbedAt v8 (0 : Int32) A).bind fun v12 =>
  some (v12, A)
else
  (if x3 = (3 : Int32) then
  (fX6_rubbedAt v8 (1 : Int32) A).bind fun v13 =>
  some (v13, A)
else
  (if x3 = (4 : Int32) then
  (fX6_rubbedAt v8 (2 : Int32) A).bind fun v14 =>
  some (v14, A)
else
  (if x3 = (5 : Int32) then
  (fX6_unfitPairs v8 A).bind fun v15 =>
  some (v15, A)
else
  (fX6_standingBy v8 (5 : Int32) A).bind fun v16 =>
  some (v16, A)))))))))))
def fX10_ownWeight (x0 : Int32) : Option (Int32) :=
  some (x0 + (2 : Int32))
def fX10_putWeight (x0 : Int32) : Option (Int32) :=
  some (-x0)
def fX10_weight (x1 : Int32) (x2 : Int32) (A : ruA) : Option (Int32 × ruA) :=
  (fX10_isKind x1).bind fun v1 =>
  (if v1 = 0 then
  ruB2 (fX10_finding (-1000001 : Int32) A) fun v7 A8 =>
  some (v7, A8)
else
  (if x1 = (1 : Int32) then
  (fX10_ownWeight x2).bind fun v2 =>
  some (v2, A)
else
  (if x1 = (2 : Int32) then
  (fX10_ownWeight x2).bind fun v3 =>
  some (((3 : Int32) * v3), A)
else
  (if x1 = (3 : Int32) then
  some ((x2 / (2 : Int32)), A)
else
  (if x1 = (4 : Int32) then
  some ((x2 - (1 : Int32)), A)
else
  (if x1 = (5 : Int32) then
  (fX10_putWeight x2).bind fun v4 =>
  some (v4, A)
else
  (if x1 = (6 : Int32) then
  (fX10_putWeight x2).bind fun v5 =>
  some ((v5 - x2), A)
else
  (if x1 = (7 : Int32) then
  (fX10_ownWeight (x2 - (1 : Int32))).bind fun v6 =>
  some (v6, A)
else
  some (x2, A)))))))))
def fX10_as (x1 : Int32) (x2 : Int32) (x3 : Int32) (x4 : Int32) (A : ruA) : Option (Int32 × ruA) :=
  (fX10_isChild x1 A).bind fun v1 =>
  (if v1 = 0 then
  ruB2 (fX10_finding (-1000001 : Int32) A) fun v2 A3 =>
  some (v2, A3)
else
  (fX10_isYear x2).bind fun v4 =>
  (if v4 = 0 then
  ruB2 (fX10_finding (-1000001 : Int32) A) fun v5 A6 =>
  some (v5, A6)
else
  (fX10_isQuestion x3).bind fun v7 =>
  (if v7 = 0 then
  ruB2 (fX10_finding (-1000001 : Int32) A) fun v8 A9 =>
  some (v8, A9)
else
  (fX10_isKind x4).bind fun v10 =>
  (if v10 = 0 then
  ruB2 (fX10_finding (-1000001 : Int32) A) fun v21 A22 =>
  some (v21, A22)
else
  (fX6_place x1 x2).bind fun v11 =>
  (ruld (A.1 10) 144 v11).bind fun v12 =>
  (if v12 = 0 then
  ruB2 (fX10_finding (-1000004 : Int32) A) fun v19 A20 =>
  some (v19, A20)
else
  (ruld (fun j => ruunder.getD j 0) 8 x4).bind fun v13 =>
  (fX6_kindAt v11 x3 A).bind fun v14 =>
  (fX10_has v13 v14).bind fun v15 =>
  (if v15 = 0 then
  ruB2 (fX10_finding (-1000003 : Int32) A) fun v17 A18 =>
  some (v17, A18)
else
  (fX6_choiceAt v11 x3 A).bind fun v16 =>
  some (v16, A)))))))
def fX3_hasSheets_l2 {β : Type} (x1 : Int32) (x2 : Int32) (A : ruA) (k42 : Option (β)) (k50 : Option (β)) : Nat → Int32 → Option (β)
  | 0, _ => none
  | n + 1, x3 =>
  (if (A.1 2 2) ≤ x3 then
  k50
else
  (ruld (A.1 5) 24 x3).bind fun v1 =>
  (if v1 = x1 then
  (fX6_place x3 x2).bind fun v2 =>
  (ruld (A.1 10) 144 v2).bind fun v3 =>
  (if v3 = 0 then
  fX3_hasSheets_l2 x1 x2 A k42 k50 n (x3 + (1 : Int32))
else
  k42)
else
  fX3_hasSheets_l2 x1 x2 A k42 k50 n (x3 + (1 : Int32))))
def fX3_hasSheets (x1 : Int32) (x2 : Int32) (A : ruA) : Option (Int32) :=
  fX3_hasSheets_l2 x1 x2 A
  (some (1 : Int32))
  (some (0 : Int32)) ruF (0 : Int32)
def fX3_fallOf (x1 : Int32) (x2 : Int32) (A : ruA) : Option (Int32) :=
  (if (5 : Int32) ≤ x2 then
  some (0 : Int32)
else
  (fX6_place x1 (x2 + (1 : Int32))).bind fun v1 =>
  (ruld (A.1 10) 144 v1).bind fun v2 =>
  (if v2 = 0 then
  some (0 : Int32)
else
  (fX6_place x1 x2).bind fun v3 =>
  (fX6_rights v3 A).bind fun v4 =>
  (fX6_place x1 (x2 + (1 : Int32))).bind fun v5 =>
  (fX6_rights v5 A).bind fun v6 =>
  some (v4 - v6)))
def fX3_ofChild (x1 : Int32) (x2 : Int32) (x3 : Int32) (A : ruA) : Option (Int32) :=
  (fX6_place x2 x3).bind fun v1 =>
  (if x1 = (0 : Int32) then
  (fX6_rubbedAt v1 (0 : Int32) A).bind fun v2 =>
  some v2
else
  (if x1 = (1 : Int32) then
  (fX6_rubbedAt v1 (1 : Int32) A).bind fun v3 =>
  some v3
else
  (if x1 = (2 : Int32) then
  some (0 : Int32)
else
  (if x1 = (3 : Int32) then
  (fX6_unfitPairs v1 A).bind fun v4 =>
  some v4
else
  (if x1 = (4 : Int32) then
  (fX3_fallOf x2 x3 A).bind fun v5 =>
  some v5
else
  (if x1 = (5 : Int32) then
  some (1 : Int32)
else
  (if x1 = (6 : Int32) then
  (fX6_standingBy v1 (5 : Int32) A).bind fun v6 =>
  some v6
else
  some (0 : Int32))))))))
def fX8_pack_l8 {β : Type} (x1 : Int32) (A : ruA) (k65 : Int64 → Int32 → Option (β)) : Nat → Int64 → Int32 → Int32 → Option (β)
  | 0, _, _, _ => none
  | n + 1, x2, x4, x5 =>
  (if (12 : Int32) ≤ x5 then
  k65 x2 x4
else
  (fX6_choiceAt x1 x5 A).bind fun v1 =>
  ((if v1 = (-1 : Int32) then
  some (0 : Int32)
else
  some ((1 : Int32) <<< (x5 &&& 31)))).bind fun v2 =>
  fX8_pack_l8 x1 A k65 n (x2 ||| (((v1 + (1 : Int32))).toInt64 <<< (((x5 * (3 : Int32))).toInt64 &&& 63))) (x4 ||| v2) (x5 + (1 : Int32)))
def fX8_pack (x1 : Int32) (A : ruA) : Option (ruA) :=
  fX8_pack_l8 x1 A
  (fun v3 v4 => (rustL A 67 24 (A.1 65 4) v3).bind fun A5 =>
  (rust A5 68 24 (A5.1 65 4) v4).bind fun A6 =>
  some A6) ruF (0 : Int64) (0 : Int32) (0 : Int32)
def fX8_gather_l7 {β : Type} (x1 : Int32) (x2 : Int32) (k83 : ruA → Option (β)) : Nat → Int32 → ruA → Option (β)
  | 0, _, _ => none
  | n + 1, x3, A =>
  (if (A.1 2 2) ≤ x3 then
  k83 A
else
  (fX6_place x3 x2).bind fun v2 =>
  (ruld (A.1 5) 24 x3).bind fun v3 =>
  ((if v3 = x1 then
  (ruld (A.1 10) 144 v2).bind fun v5 =>
  (if v5 = 0 then
  some A
else
  (rust A 66 24 (A.1 65 4) x3).bind fun A6 =>
  (fX8_pack v2 A6).bind fun A7 =>
  (some (ruset A7 65 4 ((A7.1 65 4) + (1 : Int32)))).bind fun A8 =>
  some A8)
else
  some A)).bind fun A4 =>
  fX8_gather_l7 x1 x2 k83 n (x3 + (1 : Int32)) A4)
def fX8_gather (x1 : Int32) (x2 : Int32) (A : ruA) : Option (ruA) :=
  (some (ruset A 65 4 (0 : Int32))).bind fun A1 =>
  fX8_gather_l7 x1 x2
  (fun A9 => some A9) ruF (0 : Int32) A1
def fX8_alikeTo_l19 {β : Type} (x1 : Int32) (x4 : Int64) (A : ruA) (k70 : Int32 → Option (β)) : Nat → Int32 → Int32 → Option (β)
  | 0, _, _ => none
  | n + 1, x6, x7 =>
  (if (A.1 65 4) ≤ x7 then
  k70 x6
else
  (ruldL (A.2.1 67) 24 x1).bind fun v1 =>
  (ruldL (A.2.1 67) 24 x7).bind fun v2 =>
  ((if (lg_cmp ((v1 ^^^ v2) &&& x4) (0 : Int64)) = 0 then
  (ruld (A.1 66) 24 x7).bind fun v4 =>
  some (x6 ||| ((1 : Int32) <<< (v4 &&& 31)))
else
  some x6)).bind fun v3 =>
  fX8_alikeTo_l19 x1 x4 A k70 n v3 (x7 + (1 : Int32)))
def fX8_alikeTo (x1 : Int32) (x2 : Int32) (x3 : Int32) (A : ruA) : Option (Int32) :=
  fX8_alikeTo_l19 x1 ((((1 : Int64) <<< (((x3 * (3 : Int32))).toInt64 &&& 63)) - (1 : Int64)) <<< (((x2 * (3 : Int32))).toInt64 &&& 63)) A
  (fun v5 => some v5) ruF (0 : Int32) x1
def fJ6_bitCount_0f7a4 (x0 : Int32) : Option (Int32) :=
  some ((((((((x0 - ((ruushr x0 (1 : Int32)) &&& (1431655765 : Int32))) &&& (858993459 : Int32)) + ((ruushr (x0 - ((ruushr x0 (1 : Int32)) &&& (1431655765 : Int32))) (2 : Int32)) &&& (858993459 : Int32))) + (ruushr (((x0 - ((ruushr x0 (1 : Int32)) &&& (1431655765 : Int32))) &&& (858993459 : Int32)) + ((ruushr (x0 - ((ruushr x0 (1 : Int32)) &&& (1431655765 : Int32))) (2 : Int32)) &&& (858993459 : Int32))) (4 : Int32))) &&& (252645135 : Int32)) + (ruushr (((((x0 - ((ruushr x0 (1 : Int32)) &&& (1431655765 : Int32))) &&& (858993459 : Int32)) + ((ruushr (x0 - ((ruushr x0 (1 : Int32)) &&& (1431655765 : Int32))) (2 : Int32)) &&& (858993459 : Int32))) + (ruushr (((x0 - ((ruushr x0 (1 : Int32)) &&& (1431655765 : Int32))) &&& (858993459 : Int32)) + ((ruushr (x0 - ((ruushr x0 (1 : Int32)) &&& (1431655765 : Int32))) (2 : Int32)) &&& (858993459 : Int32))) (4 : Int32))) &&& (252645135 : Int32)) (8 : Int32))) + (ruushr ((((((x0 - ((ruushr x0 (1 : Int32)) &&& (1431655765 : Int32))) &&& (858993459 : Int32)) + ((ruushr (x0 - ((ruushr x0 (1 : Int32)) &&& (1431655765 : Int32))) (2 : Int32)) &&& (858993459 : Int32))) + (ruushr (((x0 - ((ruushr x0 (1 : Int32)) &&& (1431655765 : Int32))) &&& (858993459 : Int32)) + ((ruushr (x0 - ((ruushr x0 (1 : Int32)) &&& (1431655765 : Int32))) (2 : Int32)) &&& (858993459 : Int32))) (4 : Int32))) &&& (252645135 : Int32)) + (ruushr (((((x0 - ((ruushr x0 (1 : Int32)) &&& (1431655765 : Int32))) &&& (858993459 : Int32)) + ((ruushr (x0 - ((ruushr x0 (1 : Int32)) &&& (1431655765 : Int32))) (2 : Int32)) &&& (858993459 : Int32))) + (ruushr (((x0 - ((ruushr x0 (1 : Int32)) &&& (1431655765 : Int32))) &&& (858993459 : Int32)) + ((ruushr (x0 - ((ruushr x0 (1 : Int32)) &&& (1431655765 : Int32))) (2 : Int32)) &&& (858993459 : Int32))) (4 : Int32))) &&& (252645135 : Int32)) (8 : Int32))) (16 : Int32))) &&& (63 : Int32))
def fX8_takeIfBetter (x1 : Int32) (x2 : Int32) (x3 : Int32) (A : ruA) : Option (ruA) :=
  (fJ6_bitCount_0f7a4 x1).bind fun v1 =>
  ((if v1 < x3 then
  some (0 : Int32)
else
  (if v1 = (A.1 65 3) then
  (if x2 = (A.1 65 1) then
  (if (A.1 65 2) ≤ x1 then
  some (0 : Int32)
else
  some (1 : Int32))
else
  some (0 : Int32))
else
  some (0 : Int32)))).bind fun v2 =>
  (if (A.1 65 3) < v1 then
  (some (ruset A 65 3 v1)).bind fun A3 =>
  (some (ruset A3 65 1 x2)).bind fun A4 =>
  (some (ruset A4 65 2 x1)).bind fun A5 =>
  some A5
else
  (if v2 = 0 then
  some A
else
  (some (ruset A 65 3 v1)).bind fun A6 =>
  (some (ruset A6 65 1 x2)).bind fun A7 =>
  (some (ruset A7 65 2 x1)).bind fun A8 =>
  some A8))
def fX8_lookAt_l15 {β : Type} (x1 : Int32) (x2 : Int32) (x3 : Int32) (x4 : Int32) (k85 : ruA → Option (β)) : Nat → Int32 → Int32 → ruA → Option (β)
  | 0, _, _, _ => none
  | n + 1, x5, x6, A =>
  (if (A.1 65 4) ≤ x6 then
  k85 A
else
  (ruld (A.1 66) 24 x6).bind fun v1 =>
  (fX10_has x5 v1).bind fun v2 =>
  ruB2 ((if v2 = 0 then
  (ruld (A.1 68) 24 x6).bind fun v5 =>
  (if (v5 &&& x4) = x4 then
  (fX8_alikeTo x6 x1 x2 A).bind fun v6 =>
  (fX8_takeIfBetter v6 x1 x3 A).bind fun A7 =>
  some ((x5 ||| v6), A7)
else
  some (x5, A))
else
  some (x5, A))) fun v3 A4 =>
  fX8_lookAt_l15 x1 x2 x3 x4 k85 n v3 (x6 + (1 : Int32)) A4)
def fX8_lookAt (x1 : Int32) (x2 : Int32) (x3 : Int32) (A : ruA) : Option (ruA) :=
  fX8_lookAt_l15 x1 x2 x3 ((((1 : Int32) <<< (x2 &&& 31)) - (1 : Int32)) <<< (x1 &&& 31))
  (fun A8 => some A8) ruF (0 : Int32) (0 : Int32) A
def fX8_find_l41 {β : Type} (x3 : Int32) (x4 : Int32) (k66 : ruA → Option (β)) : Nat → Int32 → ruA → Option (β)
  | 0, _, _ => none
  | n + 1, x5, A =>
  (if ((12 : Int32) - x4) < x5 then
  k66 A
else
  (fX8_lookAt x5 x4 x3 A).bind fun A6 =>
  fX8_find_l41 x3 x4 k66 n (x5 + (1 : Int32)) A6)
def fX8_find_l24 {β : Type} (x3 : Int32) (k74 : ruA → Option (β)) (k87 : ruA → Option (β)) : Nat → Int32 → ruA → Option (β)
  | 0, _, _ => none
  | n + 1, x4, A =>
  (if (12 : Int32) < x4 then
  k87 A
else
  (some (ruset A 65 3 (x3 - (1 : Int32)))).bind fun A5 =>
  fX8_find_l41 x3 x4
  (fun A7 => (if x3 ≤ (A7.1 65 3) then
  (some (ruset A7 65 0 x4)).bind fun A8 =>
  fX8_find_l24 x3 k74 k87 n (x4 + (1 : Int32)) A8
else
  k74 A7)) ruF (0 : Int32) A5)
def fX8_find (x1 : Int32) (x2 : Int32) (x3 : Int32) (A : ruA) : Option (ruA) :=
  (fX8_gather x1 x2 A).bind fun A1 =>
  (some (ruset A1 65 0 (0 : Int32))).bind fun A2 =>
  (some (ruset A2 65 1 (-1 : Int32))).bind fun A3 =>
  (some (ruset A3 65 2 (0 : Int32))).bind fun A4 =>
  fX8_find_l24 x3
  (fun A9 => some A9)
  (fun A10 => some A10) ruF (1 : Int32) A4
def fX3_of_l29 {β : Type} (x1 : Int32) (x2 : Int32) (x3 : Int32) (A : ruA) (k91 : Int32 → Option (β)) : Nat → Int32 → Int32 → Option (β)
  | 0, _, _ => none
  | n + 1, x4, x5 =>
  (if (A.1 2 2) ≤ x5 then
  k91 x4
else
  (ruld (A.1 5) 24 x5).bind fun v1 =>
  ((if v1 = x2 then
  (fX6_place x5 x3).bind fun v3 =>
  (ruld (A.1 10) 144 v3).bind fun v4 =>
  (if v4 = 0 then
  some x4
else
  (fX3_ofChild x1 x5 x3 A).bind fun v5 =>
  some (x4 + v5))
else
  some x4)).bind fun v2 =>
  fX3_of_l29 x1 x2 x3 A k91 n v2 (x5 + (1 : Int32)))
def fX3_of (x1 : Int32) (x2 : Int32) (x3 : Int32) (A : ruA) : Option (Int32 × ruA) :=
  (if x1 = (2 : Int32) then
  (fX8_find x2 x3 (3 : Int32) A).bind fun A7 =>
  some ((A7.1 65 0), A7)
else
  fX3_of_l29 x1 x2 x3 A
  (fun v6 => some (v6, A)) ruF (0 : Int32) (0 : Int32))
def fX10_measure (x1 : Int32) (x2 : Int32) (x3 : Int32) (A : ruA) : Option (Int32 × ruA) :=
  (fX10_isRoom x1 A).bind fun v1 =>
  (if v1 = 0 then
  ruB2 (fX10_finding (-1000001 : Int32) A) fun v2 A3 =>
  some (v2, A3)
else
  (fX10_isYear x2).bind fun v4 =>
  (if v4 = 0 then
  ruB2 (fX10_finding (-1000001 : Int32) A) fun v5 A6 =>
  some (v5, A6)
else
  (fX10_isWithin x3 (0 : Int32) (6 : Int32)).bind fun v7 =>
  (if v7 = 0 then
  ruB2 (fX10_finding (-1000001 : Int32) A) fun v14 A15 =>
  some (v14, A15)
else
  (fX3_hasSheets x1 x2 A).bind fun v8 =>
  (if v8 = 0 then
  ruB2 (fX10_finding (-1000004 : Int32) A) fun v12 A13 =>
  some (v12, A13)
else
  (some (ruset A 0 12 ((A.1 0 12) + (1 : Int32)))).bind fun A9 =>
  ruB2 (fX3_of x3 x1 x2 A9) fun v10 A11 =>
  some (v10, A11)))))
def fX10_looked (A : ruA) : Option (Int32) :=
  some (A.1 0 12)
def fX10_string (x1 : Int32) (x2 : Int32) (x3 : Int32) (x4 : Int32) (A : ruA) : Option (Int32 × ruA) :=
  (fX10_isRoom x1 A).bind fun v1 =>
  (if v1 = 0 then
  ruB2 (fX10_finding (-1000001 : Int32) A) fun v2 A3 =>
  some (v2, A3)
else
  (fX10_isYear x2).bind fun v4 =>
  (if v4 = 0 then
  ruB2 (fX10_finding (-1000001 : Int32) A) fun v5 A6 =>
  some (v5, A6)
else
  (fX10_isWithin x3 (2 : Int32) (9 : Int32)).bind fun v7 =>
  (if v7 = 0 then
  ruB2 (fX10_finding (-1000001 : Int32) A) fun v8 A9 =>
  some (v8, A9)
else
  (fX10_isWithin x4 (0 : Int32) (2 : Int32)).bind fun v10 =>
  (if v10 = 0 then
  ruB2 (fX10_finding (-1000001 : Int32) A) fun v12 A13 =>
  some (v12, A13)
else
  (fX8_find x1 x2 x3 A).bind fun A11 =>
  (if x4 = (0 : Int32) then
  some ((A11.1 65 0), A11)
else
  (if x4 = (1 : Int32) then
  some ((A11.1 65 1), A11)
else
  some ((A11.1 65 2), A11)))))))
def fX3_roomsWithSheets_l4 {β : Type} (x1 : Int32) (A : ruA) (k36 : Int32 → Option (β)) : Nat → Int32 → Int32 → Option (β)
  | 0, _, _ => none
  | n + 1, x2, x3 =>
  (if (A.1 2 1) ≤ x3 then
  k36 x2
else
  (fX3_hasSheets x3 x1 A).bind fun v1 =>
  ((if v1 = 0 then
  some x2
else
  some (x2 ||| ((1 : Int32) <<< (x3 &&& 31))))).bind fun v2 =>
  fX3_roomsWithSheets_l4 x1 A k36 n v2 (x3 + (1 : Int32)))
def fX3_roomsWithSheets (x1 : Int32) (A : ruA) : Option (Int32) :=
  fX3_roomsWithSheets_l4 x1 A
  (fun v3 => some v3) ruF (0 : Int32) (0 : Int32)
def fX3_workOut_l3 {β : Type} (x1 : Int32) (x2 : Int32) (x3 : Int32) (k44 : ruA → Option (β)) : Nat → Int32 → ruA → Option (β)
  | 0, _, _ => none
  | n + 1, x4, A =>
  (if (6 : Int32) ≤ x4 then
  k44 A
else
  (fX10_has x3 x4).bind fun v1 =>
  ruB2 ((if v1 = 0 then
  some ((0 : Int32), A)
else
  ruB2 (fX3_of x1 x4 x2 A) fun v4 A5 =>
  some (v4, A5))) fun v2 A3 =>
  (rust A3 64 6 x4 v2).bind fun A6 =>
  fX3_workOut_l3 x1 x2 x3 k44 n (x4 + (1 : Int32)) A6)
def fX3_workOut (x1 : Int32) (x2 : Int32) (x3 : Int32) (A : ruA) : Option (ruA) :=
  fX3_workOut_l3 x1 x2 x3
  (fun A7 => some A7) ruF (0 : Int32) A
def fX3_roomsFrom_l5 {β : Type} (x1 : Int32) (x2 : Int32) (A : ruA) (k45 : Int32 → Option (β)) : Nat → Int32 → Int32 → Option (β)
  | 0, _, _ => none
  | n + 1, x3, x4 =>
  (if (6 : Int32) ≤ x4 then
  k45 x3
else
  (fX10_has x1 x4).bind fun v1 =>
  ((if v1 = 0 then
  some x3
else
  (ruld (A.1 64) 6 x4).bind fun v3 =>
  (if v3 < x2 then
  some x3
else
  some (x3 ||| ((1 : Int32) <<< (x4 &&& 31)))))).bind fun v2 =>
  fX3_roomsFrom_l5 x1 x2 A k45 n v2 (x4 + (1 : Int32)))
def fX3_roomsFrom (x1 : Int32) (x2 : Int32) (A : ruA) : Option (Int32) :=
  fX3_roomsFrom_l5 x1 x2 A
  (fun v4 => some v4) ruF (0 : Int32) (0 : Int32)
def fX10_odd (x1 : Int32) (x2 : Int32) (x3 : Int32) (x4 : Int32) (A : ruA) : Option (Int32 × ruA) :=
  (fX10_isRoom x1 A).bind fun v1 =>
  (if v1 = 0 then
  ruB2 (fX10_finding (-1000001 : Int32) A) fun v2 A3 =>
  some (v2, A3)
else
  (fX10_isYear x2).bind fun v4 =>
  (if v4 = 0 then
  ruB2 (fX10_finding (-1000001 : Int32) A) fun v5 A6 =>
  some (v5, A6)
else
  (fX10_isWithin x3 (0 : Int32) (6 : Int32)).bind fun v7 =>
  (if v7 = 0 then
  ruB2 (fX10_finding (-1000001 : Int32) A) fun v8 A9 =>
  some (v8, A9)
else
  (fX10_isWithin x4 (0 : Int32) (1 : Int32)).bind fun v10 =>
  (if v10 = 0 then
  ruB2 (fX10_finding (-1000001 : Int32) A) fun v20 A21 =>
  some (v20, A21)
else
  (fX3_hasSheets x1 x2 A).bind fun v11 =>
  (if v11 = 0 then
  ruB2 (fX10_finding (-1000004 : Int32) A) fun v18 A19 =>
  some (v18, A19)
else
  (fX3_roomsWithSheets x2 A).bind fun v12 =>
  (if x4 = (1 : Int32) then
  (fJ6_bitCount_0f7a4 v12).bind fun v17 =>
  some (v17, A)
else
  (fX3_workOut x3 x2 v12 A).bind fun A13 =>
  (ruld (A13.1 64) 6 x1).bind fun v14 =>
  (fX3_roomsFrom v12 v14 A13).bind fun v15 =>
  (fJ6_bitCount_0f7a4 v15).bind fun v16 =>
  some (v16, A13)))))))
def fX10_feed_l38 {β : Type} (x1 : Int32) (k77 : ruA → Option (β)) : Nat → Int32 → ruA → Option (β)
  | 0, _, _ => none
  | n + 1, x3, A =>
  (if x3 < 0 then
  k77 A
else
  (rust A 72 100 (A.1 0 9) ((ruushr x1 ((8 : Int32) * x3)) &&& (255 : Int32))).bind fun A2 =>
  (some (ruset A2 0 9 ((A2.1 0 9) + (1 : Int32)))).bind fun A3 =>
  fX10_feed_l38 x1 k77 n (x3 + (-1 : Int32)) A3)
def fX10_feed (x1 : Int32) (x2 : Int32) (A : ruA) : Option (Int32 × ruA) :=
  (fX10_isWithin x2 (1 : Int32) (4 : Int32)).bind fun v1 =>
  (if v1 = 0 then
  ruB2 (fX10_finding (-1000001 : Int32) A) fun v7 A8 =>
  some (v7, A8)
else
  (if ((A.1 0 9) + x2) ≤ (100 : Int32) then
  fX10_feed_l38 x1
  (fun A4 => some ((A4.1 0 9), A4)) ruF (x2 - (1 : Int32)) A
else
  ruB2 (fX10_finding (-1000002 : Int32) A) fun v5 A6 =>
  some (v5, A6)))
def fX10_wipe (A : ruA) : Option (Int32 × ruA) :=
  (some (ruset A 0 9 (0 : Int32))).bind fun A1 =>
  some ((A.1 0 9), A1)
def fX4_isDigit (x0 : Int32) : Option (Int32) :=
  (if x0 < (48 : Int32) then
  some (0 : Int32)
else
  (if (57 : Int32) < x0 then
  some (0 : Int32)
else
  some (1 : Int32)))
def fX4_isLetter (x0 : Int32) : Option (Int32) :=
  (if x0 < (97 : Int32) then
  some (0 : Int32)
else
  (if (122 : Int32) < x0 then
  some (0 : Int32)
else
  some (1 : Int32)))
def fX4_stepWord_l2 {β : Type} (k56 : Int32 → ruA → Option (β)) : Nat → Int32 → ruA → Option (β)
  | 0, _, _ => none
  | n + 1, x1, A =>
  (if (A.1 70 1) ≤ (A.1 70 2) then
  k56 x1 A
else
  (rudI A.2.2.1).bind fun n2 =>
  (ruld (A.1 A.2.2.1) n2 (A.1 70 2)).bind fun v1 =>
  (fX4_isLetter v1).bind fun v3 =>
  (if v3 = 0 then
  k56 x1 A
else
  (ruld (A.1 A.2.2.1) n2 (A.1 70 2)).bind fun v4 =>
  (some (ruset A 70 2 ((A.1 70 2) + (1 : Int32)))).bind fun A5 =>
  fX4_stepWord_l2 k56 n ((x1 <<< ((8 : Int32) &&& 31)) ||| v4) A5))
def fX4_stepWord_l79 {β : Type} (x1 : Int32) (k117 : ruA → Option (β)) : Nat → Int32 → ruA → Option (β)
  | 0, _, _ => none
  | n + 1, x2, A =>
  (if (6 : Int32) ≤ x2 then
  k117 A
else
  (ruld (fun j => runames.getD j 0) 6 x2).bind fun v9 =>
  ((if v9 = x1 then
  (some (ruset A 70 4 (256 : Int32))).bind fun A11 =>
  (rudI A11.2.2.2).bind fun n13 =>
  (ruld (A11.1 A11.2.2.2) n13 x2).bind fun v12 =>
  (some (ruset A11 70 5 v12)).bind fun A14 =>
  some A14
else
  some A)).bind fun A10 =>
  fX4_stepWord_l79 x1 k117 n (x2 + (1 : Int32)) A10)
def fX4_stepWord (A : ruA) : Option (ruA) :=
  fX4_stepWord_l2
  (fun v6 A7 => (some (ruset A7 70 4 (258 : Int32))).bind fun A8 =>
  (if ((A8.1 70 2) - (A8.1 70 3)) ≤ (4 : Int32) then
  fX4_stepWord_l79 v6
  (fun A15 => some A15) ruF (0 : Int32) A8
else
  some A8)) ruF (0 : Int32) A
def fX4_stepNumber_l5 {β : Type} (k68 : ruA → Option (β)) : Nat → ruA → Option (β)
  | 0, _ => none
  | n + 1, A =>
  (if (A.1 70 1) ≤ (A.1 70 2) then
  k68 A
else
  (rudI A.2.2.1).bind fun n3 =>
  (ruld (A.1 A.2.2.1) n3 (A.1 70 2)).bind fun v2 =>
  (fX4_isDigit v2).bind fun v4 =>
  (if v4 = 0 then
  k68 A
else
  (ruld (A.1 A.2.2.1) n3 (A.1 70 2)).bind fun v5 =>
  (some (ruset A 70 5 (((A.1 70 5) * (10 : Int32)) + (v5 - (48 : Int32))))).bind fun A6 =>
  (some (ruset A6 70 2 ((A6.1 70 2) + (1 : Int32)))).bind fun A7 =>
  fX4_stepNumber_l5 k68 n A7))
def fX4_stepNumber (A : ruA) : Option (ruA) :=
  (some (ruset A 70 5 (0 : Int32))).bind fun A1 =>
  fX4_stepNumber_l5
  (fun A8 => ((if (4 : Int32) < ((A8.1 70 2) - (A8.1 70 3)) then
  some (258 : Int32)
else
  some (256 : Int32))).bind fun v9 =>
  (some (ruset A8 70 4 v9)).bind fun A10 =>
  some A10) ruF A1
def fX4_step_l9 {β : Type} (k47 : ruA → Option (β)) : Nat → ruA → Option (β)
  | 0, _ => none
  | n + 1, A =>
  (if (A.1 70 1) ≤ (A.1 70 2) then
  k47 A
else
  (rudI A.2.2.1).bind fun n2 =>
  (ruld (A.1 A.2.2.1) n2 (A.1 70 2)).bind fun v1 =>
  (if v1 = (32 : Int32) then
  (some (ruset A 70 2 ((A.1 70 2) + (1 : Int32)))).bind fun A3 =>
  fX4_step_l9 k47 n A3
else
  k47 A))
def fX4_step (A : ruA) : Option (ruA) :=
  (if (A.1 70 6) = (-1 : Int32) then
  fX4_step_l9
  (fun A4 => (some (ruset A4 70 3 (A4.1 70 2))).bind fun A5 =>
  (if (A5.1 70 2) < (A5.1 70 1) then
  (rudI A5.2.2.1).bind fun n7 =>
  (ruld (A5.1 A5.2.2.1) n7 (A5.1 70 2)).bind fun v6 =>
  (fX4_isDigit v6).bind fun v8 =>
  (if v8 = 0 then
  (ruld (A5.1 A5.2.2.1) n7 (A5.1 70 2)).bind fun v9 =>
  (fX4_isLetter v9).bind fun v10 =>
  (if v10 = 0 then
  (ruld (A5.1 A5.2.2.1) n7 (A5.1 70 2)).bind fun v11 =>
  (some (ruset A5 70 4 v11)).bind fun A12 =>
  (some (ruset A12 70 2 ((A12.1 70 2) + (1 : Int32)))).bind fun A13 =>
  some A13
else
  (fX4_stepWord A5).bind fun A14 =>
  some A14)
else
  (fX4_stepNumber A5).bind fun A15 =>
  some A15)
else
  (some (ruset A5 70 4 (257 : Int32))).bind fun A16 =>
  some A16)) ruF A
else
  some A)
def fX4_fail (A : ruA) : Option (ruA) :=
  (if (A.1 70 6) = (-1 : Int32) then
  (some (ruset A 70 6 (A.1 70 3))).bind fun A1 =>
  (some (ruset A1 70 4 (257 : Int32))).bind fun A2 =>
  some A2
else
  some A)
def fX4_part (gX4_either : Int32 → ruA → Option (Int32 × ruA)) (x1 : Int32) (A : ruA) : Option (Int32 × ruA) :=
  (if (A.1 70 4) = (256 : Int32) then
  (fX4_step A).bind fun A9 =>
  some ((A.1 70 5), A9)
else
  (if (A.1 70 4) = (40 : Int32) then
  (if x1 < (6 : Int32) then
  (fX4_step A).bind fun A2 =>
  ruB2 (gX4_either (x1 + (1 : Int32)) A2) fun v3 A4 =>
  ((if (A4.1 70 4) = (41 : Int32) then
  (fX4_step A4).bind fun A7 =>
  some A7
else
  (fX4_fail A4).bind fun A6 =>
  some A6)).bind fun A5 =>
  some (v3, A5)
else
  (fX4_fail A).bind fun A8 =>
  some ((0 : Int32), A8))
else
  (fX4_fail A).bind fun A1 =>
  some ((0 : Int32), A1)))
def fX4_sum_l8 {β : Type} (gX4_part : Int32 → ruA → Option (Int32 × ruA)) (x1 : Int32) (k82 : Int32 → ruA → Option (β)) : Nat → Int32 → Int32 → ruA → Option (β)
  | 0, _, _, _ => none
  | n + 1, x2, x3, A =>
  (if (100 : Int32) ≤ x3 then
  k82 x2 A
else
  (if (A.1 70 4) = (43 : Int32) then
  ((if (A.1 70 4) = (43 : Int32) then
  some (1 : Int32)
else
  some (0 : Int32))).bind fun v3 =>
  (fX4_step A).bind fun A4 =>
  ruB2 (gX4_part x1 A4) fun v5 A6 =>
  ((if v3 = 0 then
  some (x2 - v5)
else
  some (x2 + v5))).bind fun v7 =>
  fX4_sum_l8 gX4_part x1 k82 n v7 (x3 + (1 : Int32)) A6
else
  (if (A.1 70 4) = (45 : Int32) then
  ((if (A.1 70 4) = (43 : Int32) then
  some (1 : Int32)
else
  some (0 : Int32))).bind fun v8 =>
  (fX4_step A).bind fun A9 =>
  ruB2 (gX4_part x1 A9) fun v10 A11 =>
  ((if v8 = 0 then
  some (x2 - v10)
else
  some (x2 + v10))).bind fun v12 =>
  fX4_sum_l8 gX4_part x1 k82 n v12 (x3 + (1 : Int32)) A11
else
  k82 x2 A)))
def fX4_sum (gX4_part : Int32 → ruA → Option (Int32 × ruA)) (x1 : Int32) (A : ruA) : Option (Int32 × ruA) :=
  ruB2 (gX4_part x1 A) fun v1 A2 =>
  fX4_sum_l8 gX4_part x1
  (fun v13 A14 => some (v13, A14)) ruF v1 (0 : Int32) A2
def fX4_compared (gX4_sum : Int32 → ruA → Option (Int32 × ruA)) (x1 : Int32) (A : ruA) : Option (Int32 × ruA) :=
  ruB2 (gX4_sum x1 A) fun v1 A2 =>
  (if (A2.1 70 4) = (60 : Int32) then
  (fX4_step A2).bind fun A3 =>
  ruB2 (gX4_sum x1 A3) fun v4 A5 =>
  (if (A2.1 70 4) = (60 : Int32) then
  (if v4 ≤ v1 then
  some ((0 : Int32), A5)
else
  some ((1 : Int32), A5))
else
  (if (A2.1 70 4) = (61 : Int32) then
  (if v1 = v4 then
  some ((1 : Int32), A5)
else
  some ((0 : Int32), A5))
else
  (if v1 ≤ v4 then
  some ((0 : Int32), A5)
else
  some ((1 : Int32), A5))))
else
  (if (A2.1 70 4) = (61 : Int32) then
  (fX4_step A2).bind fun A6 =>
  ruB2 (gX4_sum x1 A6) fun v7 A8 =>
  (if (A2.1 70 4) = (60 : Int32) then
  (if v7 ≤ v1 then
  some ((0 : Int32), A8)
else
  some ((1 : Int32), A8))
else
  (if (A2.1 70 4) = (61 : Int32) then
  (if v1 = v7 then
  some ((1 : Int32), A8)
else
  some ((0 : Int32), A8))
else
  (if v1 ≤ v7 then
  some ((0 : Int32), A8)
else
  some ((1 : Int32), A8))))
else
  (if (A2.1 70 4) = (62 : Int32) then
  (fX4_step A2).bind fun A9 =>
  ruB2 (gX4_sum x1 A9) fun v10 A11 =>
  (if (A2.1 70 4) = (60 : Int32) then
  (if v10 ≤ v1 then
  some ((0 : Int32), A11)
else
  some ((1 : Int32), A11))
else
  (if (A2.1 70 4) = (61 : Int32) then
  (if v1 = v10 then
  some ((1 : Int32), A11)
else
  some ((0 : Int32), A11))
else
  (if v1 ≤ v10 then
  some ((0 : Int32), A11)
else
  some ((1 : Int32), A11))))
else
  some (v1, A2))))
def fX4_denied (gX4_denied : Int32 → ruA → Option (Int32 × ruA)) (gX4_compared : Int32 → ruA → Option (Int32 × ruA)) (x1 : Int32) (A : ruA) : Option (Int32 × ruA) :=
  (if (A.1 70 4) = (33 : Int32) then
  (if x1 < (6 : Int32) then
  (fX4_step A).bind fun A1 =>
  ruB2 (gX4_denied (x1 + (1 : Int32)) A1) fun v2 A3 =>
  (if v2 = 0 then
  some ((1 : Int32), A3)
else
  some ((0 : Int32), A3))
else
  (fX4_fail A).bind fun A4 =>
  some ((0 : Int32), A4))
else
  ruB2 (gX4_compared x1 A) fun v5 A6 =>
  some (v5, A6))
def fX4_both_l8 {β : Type} (gX4_denied : Int32 → ruA → Option (Int32 × ruA)) (x1 : Int32) (k55 : Int32 → ruA → Option (β)) : Nat → Int32 → Int32 → ruA → Option (β)
  | 0, _, _, _ => none
  | n + 1, x2, x3, A =>
  (if (100 : Int32) ≤ x3 then
  k55 x2 A
else
  (if (A.1 70 4) = (38 : Int32) then
  (fX4_step A).bind fun A3 =>
  ruB2 (gX4_denied x1 A3) fun v4 A5 =>
  ((if x2 = 0 then
  some (0 : Int32)
else
  (if v4 = 0 then
  some (0 : Int32)
else
  some (1 : Int32)))).bind fun v6 =>
  fX4_both_l8 gX4_denied x1 k55 n v6 (x3 + (1 : Int32)) A5
else
  k55 x2 A))
def fX4_both (gX4_denied : Int32 → ruA → Option (Int32 × ruA)) (x1 : Int32) (A : ruA) : Option (Int32 × ruA) :=
  ruB2 (gX4_denied x1 A) fun v1 A2 =>
  fX4_both_l8 gX4_denied x1
  (fun v7 A8 => some (v7, A8)) ruF v1 (0 : Int32) A2
def fX4_either_l8 {β : Type} (gX4_both : Int32 → ruA → Option (Int32 × ruA)) (x1 : Int32) (k55 : Int32 → ruA → Option (β)) : Nat → Int32 → Int32 → ruA → Option (β)
  | 0, _, _, _ => none
  | n + 1, x2, x3, A =>
  (if (100 : Int32) ≤ x3 then
  k55 x2 A
else
  (if (A.1 70 4) = (124 : Int32) then
  (fX4_step A).bind fun A3 =>
  ruB2 (gX4_both x1 A3) fun v4 A5 =>
  ((if x2 = 0 then
  (if v4 = 0 then
  some (0 : Int32)
else
  some (1 : Int32))
else
  some (1 : Int32))).bind fun v6 =>
  fX4_either_l8 gX4_both x1 k55 n v6 (x3 + (1 : Int32)) A5
else
  k55 x2 A))
def fX4_either (gX4_both : Int32 → ruA → Option (Int32 × ruA)) (x1 : Int32) (A : ruA) : Option (Int32 × ruA) :=
  ruB2 (gX4_both x1 A) fun v1 A2 =>
  fX4_either_l8 gX4_both x1
  (fun v7 A8 => some (v7, A8)) ruF v1 (0 : Int32) A2
def fX4_deniedK (e : Int32 → ruA → Option (Int32 × ruA)) : Nat → Int32 → ruA → Option (Int32 × ruA)
  | 0, _, _ => none
  | n + 1, y, A => fX4_denied (fX4_deniedK e n) (fX4_compared (fX4_sum (fX4_part e))) y A
def fX4_eitherK : Nat → Int32 → ruA → Option (Int32 × ruA)
  | 0, _, _ => none
  | n + 1, y, A => fX4_either (fX4_both (fX4_deniedK (fX4_eitherK n) 10)) y A
def fX4_eitherT (y : Int32) (A : ruA) : Option (Int32 × ruA) := fX4_eitherK 10 y A
def fX4_worthOf (x1 : Nat) (x2 : Int32) (x3 : Nat) (A : ruA) : Option (Int32 × ruA) :=
  (some (rusett A x1)).bind fun A1 =>
  (some (ruset A1 70 1 x2)).bind fun A2 =>
  (some (rusetm A2 x3)).bind fun A3 =>
  (some (ruset A3 70 2 (0 : Int32))).bind fun A4 =>
  (some (ruset A4 70 6 (-1 : Int32))).bind fun A5 =>
  (fX4_step A5).bind fun A6 =>
  ruB2 (fX4_eitherT (0 : Int32) A6) fun v7 A8 =>
  ((if (A8.1 70 4) = (257 : Int32) then
  some A8
else
  (fX4_fail A8).bind fun A10 =>
  some A10)).bind fun A9 =>
  some (v7, A9)
def fX4_faultOf (x2 : Int32) (A : ruA) : Option (Int32 × ruA) :=
  ruB2 (fX4_worthOf 72 x2 71 A) fun v1 A2 =>
  some ((A2.1 70 6), A2)
def fX9_taken (x2 : Int32) (A : ruA) : Option (Int32 × ruA) :=
  (rulr A 15 6 (A.1 14 0)).bind fun c1 =>
  (rudI c1).bind fun n2 =>
  (rucpy A 72 100 (0 : Int32) c1 n2 (0 : Int32) x2).bind fun A3 =>
  (rust A3 22 6 (A.1 14 0) x2).bind fun A4 =>
  (some (ruset A4 14 0 ((A4.1 14 0) + (1 : Int32)))).bind fun A5 =>
  some ((A.1 14 0), A5)
def fX10_way (A : ruA) : Option (Int32 × ruA) :=
  (if (A.1 14 0) < (6 : Int32) then
  (some (ruset A 0 9 (0 : Int32))).bind fun A1 =>
  ruB2 (fX4_faultOf (A.1 0 9) A1) fun v2 A3 =>
  (if v2 < 0 then
  ruB2 (fX9_taken (A.1 0 9) A3) fun v4 A5 =>
  some (v4, A5)
else
  some (((-1 : Int32) - v2), A3))
else
  ruB2 (fX10_finding (-1000002 : Int32) A) fun v6 A7 =>
  some (v6, A7))
def fX10_isWay (x1 : Int32) (A : ruA) : Option (Int32) :=
  (fX10_isWithin x1 (0 : Int32) ((A.1 14 0) - (1 : Int32))).bind fun v1 =>
  (rubz v1).bind fun _ => some v1
def fX10_comesTo_l3 {β : Type} (x1 : Int32) (x2 : Int32) (x3 : Int32) (k34 : ruA → Option (β)) : Nat → Int32 → ruA → Option (β)
  | 0, _, _ => none
  | n + 1, x4, A =>
  (if (6 : Int32) ≤ x4 then
  k34 A
else
  ruB2 (fX3_of x4 x2 x3 A) fun v1 A2 =>
  (rust A2 69 6 x4 v1).bind fun A3 =>
  fX10_comesTo_l3 x1 x2 x3 k34 n (x4 + (1 : Int32)) A3)
def fX10_comesTo (x1 : Int32) (x2 : Int32) (x3 : Int32) (A : ruA) : Option (Int32 × ruA) :=
  fX10_comesTo_l3 x1 x2 x3
  (fun A4 => (rulr A4 15 6 x1).bind fun c5 =>
  (ruld (A4.1 22) 6 x1).bind fun v6 =>
  ruB2 (fX4_worthOf c5 v6 69 A4) fun v7 A8 =>
  some (v7, A8)) ruF (0 : Int32) A
def fX10_says (x1 : Int32) (x2 : Int32) (x3 : Int32) (A : ruA) : Option (Int32 × ruA) :=
  (fX10_isWay x1 A).bind fun v1 =>
  (if v1 = 0 then
  ruB2 (fX10_finding (-1000001 : Int32) A) fun v2 A3 =>
  some (v2, A3)
else
  (fX10_isRoom x2 A).bind fun v4 =>
  (if v4 = 0 then
  ruB2 (fX10_finding (-1000001 : Int32) A) fun v5 A6 =>
  some (v5, A6)
else
  (fX10_isYear x3).bind fun v7 =>
  (if v7 = 0 then
  ruB2 (fX10_finding (-1000001 : Int32) A) fun v13 A14 =>
  some (v13, A14)
else
  (fX3_hasSheets x2 x3 A).bind fun v8 =>
  (if v8 = 0 then
  ruB2 (fX10_finding (-1000004 : Int32) A) fun v11 A12 =>
  some (v11, A12)
else
  ruB2 (fX10_comesTo x1 x2 x3 A) fun v9 A10 =>
  some (v9, A10)))))
def fX10_flaggedBy_l5 {β : Type} (x1 : Int32) (x2 : Int32) (k54 : Int32 → ruA → Option (β)) : Nat → Int32 → Int32 → ruA → Option (β)
  | 0, _, _, _ => none
  | n + 1, x3, x4, A =>
  (if (A.1 2 1) ≤ x4 then
  k54 x3 A
else
  (fX3_hasSheets x4 x2 A).bind fun v1 =>
  ruB2 ((if v1 = 0 then
  some (x3, A)
else
  ruB2 (fX10_comesTo x1 x4 x2 A) fun v4 A5 =>
  (if v4 = 0 then
  some (x3, A5)
else
  some ((x3 ||| ((1 : Int32) <<< (x4 &&& 31))), A5)))) fun v2 A3 =>
  fX10_flaggedBy_l5 x1 x2 k54 n v2 (x4 + (1 : Int32)) A3)
def fX10_flaggedBy (x1 : Int32) (x2 : Int32) (A : ruA) : Option (Int32 × ruA) :=
  fX10_flaggedBy_l5 x1 x2
  (fun v6 A7 => some (v6, A7)) ruF (0 : Int32) (0 : Int32) A
def fX3_roomsWithPuts_l4 {β : Type} (x1 : Int32) (k38 : Int32 → ruA → Option (β)) : Nat → Int32 → Int32 → ruA → Option (β)
  | 0, _, _, _ => none
  | n + 1, x2, x3, A =>
  (if (A.1 2 1) ≤ x3 then
  k38 x2 A
else
  ruB2 (fX3_of (6 : Int32) x3 x1 A) fun v1 A2 =>
  ((if v1 ≤ 0 then
  some x2
else
  some (x2 ||| ((1 : Int32) <<< (x3 &&& 31))))).bind fun v3 =>
  fX3_roomsWithPuts_l4 x1 k38 n v3 (x3 + (1 : Int32)) A2)
def fX3_roomsWithPuts (x1 : Int32) (A : ruA) : Option (Int32 × ruA) :=
  fX3_roomsWithPuts_l4 x1
  (fun v4 A5 => some (v4, A5)) ruF (0 : Int32) (0 : Int32) A
def fX10_judges (x1 : Int32) (x2 : Int32) (x3 : Int32) (A : ruA) : Option (Int32 × ruA) :=
  (fX10_isWay x1 A).bind fun v1 =>
  (if v1 = 0 then
  ruB2 (fX10_finding (-1000001 : Int32) A) fun v2 A3 =>
  some (v2, A3)
else
  (fX10_isYear x2).bind fun v4 =>
  (if v4 = 0 then
  ruB2 (fX10_finding (-1000001 : Int32) A) fun v5 A6 =>
  some (v5, A6)
else
  (fX10_isWithin x3 (0 : Int32) (2 : Int32)).bind fun v7 =>
  (if v7 = 0 then
  ruB2 (fX10_finding (-1000001 : Int32) A) fun v12 A13 =>
  some (v12, A13)
else
  ruB2 (fX10_flaggedBy x1 x2 A) fun v8 A9 =>
  (if x3 = 0 then
  some (v8, A9)
else
  ruB2 (fX3_roomsWithPuts x2 A9) fun v10 A11 =>
  (if x3 = (1 : Int32) then
  some ((v8 &&& (v10 ^^^ (-1 : Int32))), A11)
else
  some ((v10 &&& (v8 ^^^ (-1 : Int32))), A11))))))
def fX3_isBetter (x1 : Int32) (x2 : Int32) (x3 : Int32) (x4 : Int32) (A : ruA) : Option (Int32) :=
  (fX3_roomsFrom x3 x1 A).bind fun v1 =>
  (fX3_roomsFrom x3 x2 A).bind fun v2 =>
  (fJ6_bitCount_0f7a4 (v1 &&& (x4 ^^^ (-1 : Int32)))).bind fun v3 =>
  (fJ6_bitCount_0f7a4 (v2 &&& (x4 ^^^ (-1 : Int32)))).bind fun v4 =>
  (fJ6_bitCount_0f7a4 (x4 &&& (v1 ^^^ (-1 : Int32)))).bind fun v5 =>
  (fJ6_bitCount_0f7a4 (x4 &&& (v2 ^^^ (-1 : Int32)))).bind fun v6 =>
  (if (v3 + v5) = (v4 + v6) then
  (if v3 = v4 then
  (if x2 ≤ x1 then
  some (0 : Int32)
else
  some (1 : Int32))
else
  (if v4 ≤ v3 then
  some (0 : Int32)
else
  some (1 : Int32)))
else
  (if (v4 + v6) ≤ (v3 + v5) then
  some (0 : Int32)
else
  some (1 : Int32)))
def fX3_bestLine_l5 {β : Type} (x1 : Int32) (x2 : Int32) (A : ruA) (k73 : Int32 → Option (β)) : Nat → Int32 → Int32 → Option (β)
  | 0, _, _ => none
  | n + 1, x3, x4 =>
  (if (6 : Int32) ≤ x4 then
  k73 x3
else
  (fX10_has x1 x4).bind fun v1 =>
  ((if v1 = 0 then
  some x3
else
  (ruld (A.1 64) 6 x4).bind fun v3 =>
  (fX10_isWithin v3 (0 : Int32) (9998 : Int32)).bind fun v4 =>
  (if v4 = 0 then
  some x3
else
  (ruld (A.1 64) 6 x4).bind fun v5 =>
  (fX3_isBetter (v5 + (1 : Int32)) x3 x1 x2 A).bind fun v6 =>
  (if v6 = 0 then
  some x3
else
  (ruld (A.1 64) 6 x4).bind fun v7 =>
  some (v7 + (1 : Int32)))))).bind fun v2 =>
  fX3_bestLine_l5 x1 x2 A k73 n v2 (x4 + (1 : Int32)))
def fX3_bestLine (x1 : Int32) (x2 : Int32) (A : ruA) : Option (Int32) :=
  fX3_bestLine_l5 x1 x2 A
  (fun v8 => some v8) ruF (0 : Int32) (0 : Int32)
def fX10_line (x1 : Int32) (x2 : Int32) (x3 : Int32) (A : ruA) : Option (Int32 × ruA) :=
  (fX10_isWithin x1 (0 : Int32) (5 : Int32)).bind fun v1 =>
  (if v1 = 0 then
  ruB2 (fX10_finding (-1000001 : Int32) A) fun v2 A3 =>
  some (v2, A3)
else
  (fX10_isYear x2).bind fun v4 =>
  (if v4 = 0 then
  ruB2 (fX10_finding (-1000001 : Int32) A) fun v5 A6 =>
  some (v5, A6)
else
  (fX10_isWithin x3 (0 : Int32) (2 : Int32)).bind fun v7 =>
  (if v7 = 0 then
  ruB2 (fX10_finding (-1000001 : Int32) A) fun v18 A19 =>
  some (v18, A19)
else
  (fX3_roomsWithSheets x2 A).bind fun v8 =>
  (if v8 = 0 then
  ruB2 (fX10_finding (-1000004 : Int32) A) fun v16 A17 =>
  some (v16, A17)
else
  (fX3_workOut x1 x2 v8 A).bind fun A9 =>
  ruB2 (fX3_roomsWithPuts x2 A9) fun v10 A11 =>
  (fX3_bestLine v8 v10 A11).bind fun v12 =>
  (if x3 = 0 then
  some (v12, A11)
else
  (fX3_roomsFrom v8 v12 A11).bind fun v13 =>
  ((if x3 = (1 : Int32) then
  some (v13 &&& (v10 ^^^ (-1 : Int32)))
else
  some (v10 &&& (v13 ^^^ (-1 : Int32))))).bind fun v14 =>
  (fJ6_bitCount_0f7a4 v14).bind fun v15 =>
  some (v15, A11))))))
def fX10_areHours (x0 : Int32) (x1 : Int32) : Option (Int32) :=
  (if x0 < 0 then
  some (0 : Int32)
else
  (if x1 ≤ x0 then
  some (0 : Int32)
else
  (if (99 : Int32) < x1 then
  some (0 : Int32)
else
  some (1 : Int32))))
def fX2_given (x1 : Int32) (x2 : Int32) (x3 : Int32) (x4 : Int32) (A : ruA) : Option (Int32 × ruA) :=
  (rust A 24 30 (A.1 23 0) x1).bind fun A1 =>
  (rust A1 25 30 (A1.1 23 0) x2).bind fun A2 =>
  (rust A2 26 30 (A2.1 23 0) x3).bind fun A3 =>
  (rust A3 27 30 (A3.1 23 0) x4).bind fun A4 =>
  (some (ruset A4 23 0 ((A4.1 23 0) + (1 : Int32)))).bind fun A5 =>
  some ((A5.1 23 0), A5)
def fX10_holds (x1 : Int32) (x2 : Int32) (x3 : Int32) (x4 : Int32) (A : ruA) : Option (Int32 × ruA) :=
  (fX10_isWithin x1 (0 : Int32) (9 : Int32)).bind fun v1 =>
  (if v1 = 0 then
  ruB2 (fX10_finding (-1000001 : Int32) A) fun v2 A3 =>
  some (v2, A3)
else
  (fX10_isRoom x2 A).bind fun v4 =>
  (if v4 = 0 then
  ruB2 (fX10_finding (-1000001 : Int32) A) fun v5 A6 =>
  some (v5, A6)
else
  (fX10_areHours x3 x4).bind fun v7 =>
  (if v7 = 0 then
  ruB2 (fX10_finding (-1000001 : Int32) A) fun v12 A13 =>
  some (v12, A13)
else
  (if (A.1 23 0) < (30 : Int32) then
  ruB2 (fX2_given x1 x2 x3 x4 A) fun v8 A9 =>
  some (v8, A9)
else
  ruB2 (fX10_finding (-1000002 : Int32) A) fun v10 A11 =>
  some (v10, A11)))))
def fX2_holdersAt_l5 {β : Type} (x1 : Int32) (x2 : Int32) (A : ruA) (k65 : Int32 → Option (β)) : Nat → Int32 → Int32 → Option (β)
  | 0, _, _ => none
  | n + 1, x3, x4 =>
  (if (A.1 23 0) ≤ x4 then
  k65 x3
else
  (ruld (A.1 25) 30 x4).bind fun v1 =>
  ((if v1 = x1 then
  (ruld (A.1 26) 30 x4).bind fun v3 =>
  (if x2 < v3 then
  some x3
else
  (ruld (A.1 27) 30 x4).bind fun v4 =>
  (if v4 ≤ x2 then
  some x3
else
  (ruld (A.1 24) 30 x4).bind fun v5 =>
  some (x3 ||| ((1 : Int32) <<< (v5 &&& 31)))))
else
  some x3)).bind fun v2 =>
  fX2_holdersAt_l5 x1 x2 A k65 n v2 (x4 + (1 : Int32)))
def fX2_holdersAt (x1 : Int32) (x2 : Int32) (A : ruA) : Option (Int32) :=
  fX2_holdersAt_l5 x1 x2 A
  (fun v6 => some v6) ruF (0 : Int32) (0 : Int32)
def fX2_firstGap_l3 {β : Type} (x1 : Int32) (x3 : Int32) (A : ruA) (k19 : Int32 → Option (β)) (k28 : Option (β)) : Nat → Int32 → Option (β)
  | 0, _ => none
  | n + 1, x4 =>
  (if x3 ≤ x4 then
  k28
else
  (fX2_holdersAt x1 x4 A).bind fun v1 =>
  (if v1 = 0 then
  k19 x4
else
  fX2_firstGap_l3 x1 x3 A k19 k28 n (x4 + (1 : Int32))))
def fX2_firstGap (x1 : Int32) (x2 : Int32) (x3 : Int32) (A : ruA) : Option (Int32) :=
  fX2_firstGap_l3 x1 x3 A
  (fun v2 => some v2)
  (some (-1 : Int32)) ruF x2
def fX2_gapCount_l6 {β : Type} (x1 : Int32) (x3 : Int32) (A : ruA) (k31 : Int32 → Option (β)) : Nat → Int32 → Int32 → Option (β)
  | 0, _, _ => none
  | n + 1, x4, x5 =>
  (if x3 ≤ x5 then
  k31 x4
else
  (fX2_holdersAt x1 x5 A).bind fun v1 =>
  ((if v1 = 0 then
  some (x4 + (1 : Int32))
else
  some x4)).bind fun v2 =>
  fX2_gapCount_l6 x1 x3 A k31 n v2 (x5 + (1 : Int32)))
def fX2_gapCount (x1 : Int32) (x2 : Int32) (x3 : Int32) (A : ruA) : Option (Int32) :=
  fX2_gapCount_l6 x1 x3 A
  (fun v3 => some v3) ruF (0 : Int32) x2
def fX10_gaps (x1 : Int32) (x2 : Int32) (x3 : Int32) (x4 : Int32) (A : ruA) : Option (Int32 × ruA) :=
  (fX10_isRoom x1 A).bind fun v1 =>
  (if v1 = 0 then
  ruB2 (fX10_finding (-1000001 : Int32) A) fun v2 A3 =>
  some (v2, A3)
else
  (fX10_areHours x2 x3).bind fun v4 =>
  (if v4 = 0 then
  ruB2 (fX10_finding (-1000001 : Int32) A) fun v5 A6 =>
  some (v5, A6)
else
  (fX10_isWithin x4 (0 : Int32) (1 : Int32)).bind fun v7 =>
  (if v7 = 0 then
  ruB2 (fX10_finding (-1000001 : Int32) A) fun v10 A11 =>
  some (v10, A11)
else
  (if x4 = 0 then
  (fX2_gapCount x1 x2 x3 A).bind fun v9 =>
  some (v9, A)
else
  (fX2_firstGap x1 x2 x3 A).bind fun v8 =>
  some (v8, A)))))
def fJ7_fill_53178_l5 {β : Type} (x0 : Nat) (x1 : Int32) (x3 : Int32) (k20 : ruA → Option (β)) : Nat → Int32 → ruA → Option (β)
  | 0, _, _ => none
  | n + 1, x2, A =>
  (if x3 ≤ x2 then
  k20 A
else
  (rudI x0).bind fun n2 =>
  (rust A x0 n2 x2 x1).bind fun A3 =>
  fJ7_fill_53178_l5 x0 x1 x3 k20 n (x2 + (1 : Int32)) A3)
def fJ7_fill_53178 (x0 : Nat) (x1 : Int32) (A : ruA) : Option (ruA) :=
  (rudI x0).bind fun n1 =>
  fJ7_fill_53178_l5 x0 x1 (Int32.ofNat n1)
  (fun A4 => some A4) ruF (0 : Int32) A
def fX2_holdersOfAtLeast_l30 {β : Type} (x1 : Int32) (x2 : Int32) (x4 : Int32) (x5 : Int32) (x6 : Int32) (k60 : ruA → Option (β)) : Nat → Int32 → ruA → Option (β)
  | 0, _, _ => none
  | n + 1, x7, A =>
  (if (10 : Int32) ≤ x7 then
  k60 A
else
  (ruld (A.1 28) 10 x7).bind fun v3 =>
  (rust A 28 10 x7 (v3 + ((ruushr x6 x7) &&& (1 : Int32)))).bind fun A4 =>
  fX2_holdersOfAtLeast_l30 x1 x2 x4 x5 x6 k60 n (x7 + (1 : Int32)) A4)
def fX2_holdersOfAtLeast_l11 {β : Type} (x1 : Int32) (x2 : Int32) (x4 : Int32) (k66 : ruA → Option (β)) : Nat → Int32 → ruA → Option (β)
  | 0, _, _ => none
  | n + 1, x5, A =>
  (if x4 ≤ x5 then
  k66 A
else
  (fX2_holdersAt x2 x5 A).bind fun v2 =>
  fX2_holdersOfAtLeast_l30 x1 x2 x4 x5 v2
  (fun A5 => fX2_holdersOfAtLeast_l11 x1 x2 x4 k66 n (x5 + (1 : Int32)) A5) ruF (0 : Int32) A)
def fX2_holdersOfAtLeast_l72 {β : Type} (x1 : Int32) (A : ruA) (k105 : Int32 → Option (β)) : Nat → Int32 → Int32 → Option (β)
  | 0, _, _ => none
  | n + 1, x5, x6 =>
  (if (10 : Int32) ≤ x6 then
  k105 x5
else
  (ruld (A.1 28) 10 x6).bind fun v7 =>
  ((if v7 < x1 then
  some x5
else
  some (x5 ||| ((1 : Int32) <<< (x6 &&& 31))))).bind fun v8 =>
  fX2_holdersOfAtLeast_l72 x1 A k105 n v8 (x6 + (1 : Int32)))
def fX2_holdersOfAtLeast (x1 : Int32) (x2 : Int32) (x3 : Int32) (x4 : Int32) (A : ruA) : Option (Int32 × ruA) :=
  (fJ7_fill_53178 28 (0 : Int32) A).bind fun A1 =>
  fX2_holdersOfAtLeast_l11 x1 x2 x4
  (fun A6 => fX2_holdersOfAtLeast_l72 x1 A6
  (fun v9 => some (v9, A6)) ruF (0 : Int32) (0 : Int32)) ruF x3 A1
def fX10_could (x1 : Int32) (x2 : Int32) (x3 : Int32) (x4 : Int32) (A : ruA) : Option (Int32 × ruA) :=
  (fX10_isRoom x1 A).bind fun v1 =>
  (if v1 = 0 then
  ruB2 (fX10_finding (-1000001 : Int32) A) fun v2 A3 =>
  some (v2, A3)
else
  (fX10_areHours x2 x3).bind fun v4 =>
  (if v4 = 0 then
  ruB2 (fX10_finding (-1000001 : Int32) A) fun v5 A6 =>
  some (v5, A6)
else
  (fX10_isWithin x4 (1 : Int32) (99 : Int32)).bind fun v7 =>
  (if v7 = 0 then
  ruB2 (fX10_finding (-1000001 : Int32) A) fun v10 A11 =>
  some (v10, A11)
else
  ruB2 (fX2_holdersOfAtLeast x4 x1 x2 x3 A) fun v8 A9 =>
  some (v8, A9))))
def fX1_withThoseUnder_l4 {β : Type} (x0 : Int32) (k32 : Int32 → Option (β)) : Nat → Int32 → Int32 → Option (β)
  | 0, _, _ => none
  | n + 1, x1, x2 =>
  (if (8 : Int32) ≤ x2 then
  k32 x1
else
  (fX10_has x0 x2).bind fun v1 =>
  ((if v1 = 0 then
  some x1
else
  (ruld (fun j => ruunder.getD j 0) 8 x2).bind fun v3 =>
  some (x1 ||| v3))).bind fun v2 =>
  fX1_withThoseUnder_l4 x0 k32 n v2 (x2 + (1 : Int32)))
def fX1_withThoseUnder (x0 : Int32) : Option (Int32) :=
  fX1_withThoseUnder_l4 x0
  (fun v4 => some v4) ruF (0 : Int32) (0 : Int32)
def fX1_made (x1 : Int32) (x2 : Int32) (A : ruA) : Option (Int32 × ruA) :=
  (rust A 30 8 (A.1 29 0) x1).bind fun A1 =>
  (fX1_withThoseUnder x2).bind fun v2 =>
  (rust A1 31 8 (A.1 29 0) v2).bind fun A3 =>
  (some (ruset A3 29 0 ((A3.1 29 0) + (1 : Int32)))).bind fun A4 =>
  some ((A.1 29 0), A4)
def fX10_form (x1 : Int32) (x2 : Int32) (A : ruA) : Option (Int32 × ruA) :=
  (fX10_isWithin x1 (0 : Int32) (99 : Int32)).bind fun v1 =>
  (if v1 = 0 then
  ruB2 (fX10_finding (-1000001 : Int32) A) fun v2 A3 =>
  some (v2, A3)
else
  (fX10_isWithin x2 (0 : Int32) (255 : Int32)).bind fun v4 =>
  (if v4 = 0 then
  ruB2 (fX10_finding (-1000001 : Int32) A) fun v9 A10 =>
  some (v9, A10)
else
  (if (A.1 29 0) < (8 : Int32) then
  ruB2 (fX1_made x1 x2 A) fun v5 A6 =>
  some (v5, A6)
else
  ruB2 (fX10_finding (-1000002 : Int32) A) fun v7 A8 =>
  some (v7, A8))))
def fX1_barredBy_l4 {β : Type} (x1 : Int32) (A : ruA) (k35 : Int32 → Option (β)) : Nat → Int32 → Int32 → Option (β)
  | 0, _, _ => none
  | n + 1, x2, x3 =>
  (if (A.1 29 0) ≤ x3 then
  k35 x2
else
  (fX10_has x1 x3).bind fun v1 =>
  ((if v1 = 0 then
  some x2
else
  (ruld (A.1 31) 8 x3).bind fun v3 =>
  some (x2 ||| v3))).bind fun v2 =>
  fX1_barredBy_l4 x1 A k35 n v2 (x3 + (1 : Int32)))
def fX1_barredBy (x1 : Int32) (A : ruA) : Option (Int32) :=
  fX1_barredBy_l4 x1 A
  (fun v4 => some v4) ruF (0 : Int32) (0 : Int32)
def fX1_priceOf_l4 {β : Type} (x1 : Int32) (A : ruA) (k35 : Int32 → Option (β)) : Nat → Int32 → Int32 → Option (β)
  | 0, _, _ => none
  | n + 1, x2, x3 =>
  (if (A.1 29 0) ≤ x3 then
  k35 x2
else
  (fX10_has x1 x3).bind fun v1 =>
  ((if v1 = 0 then
  some x2
else
  (ruld (A.1 30) 8 x3).bind fun v3 =>
  some (x2 + v3))).bind fun v2 =>
  fX1_priceOf_l4 x1 A k35 n v2 (x3 + (1 : Int32)))
def fX1_priceOf (x1 : Int32) (A : ruA) : Option (Int32) :=
  fX1_priceOf_l4 x1 A
  (fun v4 => some v4) ruF (0 : Int32) (0 : Int32)
def fX1_isBetter (x1 : Int32) (x2 : Int32) (A : ruA) : Option (Int32) :=
  (fX1_priceOf x1 A).bind fun v1 =>
  (fX1_priceOf x2 A).bind fun v2 =>
  (if v1 < v2 then
  some (1 : Int32)
else
  (if v1 = v2 then
  (fJ6_bitCount_0f7a4 x1).bind fun v3 =>
  (fJ6_bitCount_0f7a4 x2).bind fun v4 =>
  (if v4 ≤ v3 then
  some (0 : Int32)
else
  some (1 : Int32))
else
  some (0 : Int32)))
def fX1_cheapestSet_l4 {β : Type} (x1 : Int32) (A : ruA) (k47 : Int32 → Option (β)) : Nat → Int32 → Int32 → Option (β)
  | 0, _, _ => none
  | n + 1, x2, x3 =>
  (if ((1 : Int32) <<< ((A.1 29 0) &&& 31)) ≤ x3 then
  k47 x2
else
  (fX1_barredBy x3 A).bind fun v1 =>
  ((if (x1 &&& (v1 ^^^ (-1 : Int32))) = 0 then
  (if x2 < 0 then
  some x3
else
  (fX1_isBetter x3 x2 A).bind fun v3 =>
  (if v3 = 0 then
  some x2
else
  some x3))
else
  some x2)).bind fun v2 =>
  fX1_cheapestSet_l4 x1 A k47 n v2 (x3 + (1 : Int32)))
def fX1_cheapestSet (x1 : Int32) (A : ruA) : Option (Int32) :=
  fX1_cheapestSet_l4 x1 A
  (fun v4 => some v4) ruF (-1 : Int32) (0 : Int32)
def fX10_cheapest (x1 : Int32) (x2 : Int32) (A : ruA) : Option (Int32 × ruA) :=
  (fX10_isWithin x1 (0 : Int32) (255 : Int32)).bind fun v1 =>
  (if v1 = 0 then
  ruB2 (fX10_finding (-1000001 : Int32) A) fun v2 A3 =>
  some (v2, A3)
else
  (fX10_isWithin x2 (0 : Int32) (1 : Int32)).bind fun v4 =>
  (if v4 = 0 then
  ruB2 (fX10_finding (-1000001 : Int32) A) fun v9 A10 =>
  some (v9, A10)
else
  (fX1_cheapestSet x1 A).bind fun v5 =>
  (if 0 ≤ v5 then
  (if x2 = 0 then
  (fX1_priceOf v5 A).bind fun v6 =>
  some (v6, A)
else
  some (v5, A))
else
  ruB2 (fX10_finding (-1000004 : Int32) A) fun v7 A8 =>
  some (v7, A8))))
def fX7_renewed (x0 : Nat) (x1 : Int32) (x2 : Int32) (A : ruA) : Option (Int32 × ruA) :=
  (rudO x0 7).bind fun _ =>
  (some (ruset A x0 0 x1)).bind fun A2 =>
  ((if x1 = 0 then
  some (0 : Int32)
else
  some x2)).bind fun v3 =>
  (some (ruset A2 x0 1 v3)).bind fun A4 =>
  (ruref A4 x0 2).bind fun c5 =>
  (fJ7_fill_53178 c5 (0 : Int32) A4).bind fun A6 =>
  some ((A6.1 x0 1), A6)
def fX10_slip (x1 : Int32) (x2 : Int32) (x3 : Int32) (A : ruA) : Option (Int32 × ruA) :=
  (fX10_isSlip x1).bind fun v1 =>
  (if v1 = 0 then
  ruB2 (fX10_finding (-1000001 : Int32) A) fun v2 A3 =>
  some (v2, A3)
else
  (if x2 = 0 then
  (if 0 ≤ x3 then
  (if x3 ≤ (24 : Int32) then
  (rulr A 73 4 x1).bind fun c4 =>
  (rudO c4 7).bind fun _ =>
  ruB2 (fX7_renewed c4 x2 x3 A) fun v6 A7 =>
  some (v6, A7)
else
  ruB2 (fX10_finding (-1000001 : Int32) A) fun v8 A9 =>
  some (v8, A9))
else
  ruB2 (fX10_finding (-1000007 : Int32) A) fun v10 A11 =>
  some (v10, A11))
else
  (if x2 = (8 : Int32) then
  (if 0 ≤ x3 then
  (if x3 ≤ (24 : Int32) then
  (rulr A 73 4 x1).bind fun c12 =>
  (rudO c12 7).bind fun _ =>
  ruB2 (fX7_renewed c12 x2 x3 A) fun v14 A15 =>
  some (v14, A15)
else
  ruB2 (fX10_finding (-1000001 : Int32) A) fun v16 A17 =>
  some (v16, A17))
else
  ruB2 (fX10_finding (-1000007 : Int32) A) fun v18 A19 =>
  some (v18, A19))
else
  (if x2 = (16 : Int32) then
  (if 0 ≤ x3 then
  (if x3 ≤ (24 : Int32) then
  (rulr A 73 4 x1).bind fun c20 =>
  (rudO c20 7).bind fun _ =>
  ruB2 (fX7_renewed c20 x2 x3 A) fun v22 A23 =>
  some (v22, A23)
else
  ruB2 (fX10_finding (-1000001 : Int32) A) fun v24 A25 =>
  some (v24, A25))
else
  ruB2 (fX10_finding (-1000007 : Int32) A) fun v26 A27 =>
  some (v26, A27))
else
  (if x2 = (32 : Int32) then
  (if 0 ≤ x3 then
  (if x3 ≤ (24 : Int32) then
  (rulr A 73 4 x1).bind fun c28 =>
  (rudO c28 7).bind fun _ =>
  ruB2 (fX7_renewed c28 x2 x3 A) fun v30 A31 =>
  some (v30, A31)
else
  ruB2 (fX10_finding (-1000001 : Int32) A) fun v32 A33 =>
  some (v32, A33))
else
  ruB2 (fX10_finding (-1000007 : Int32) A) fun v34 A35 =>
  some (v34, A35))
else
  ruB2 (fX10_finding (-1000001 : Int32) A) fun v36 A37 =>
  some (v36, A37))))))
def fX7_lowestBits (x0 : Nat) (x1 : Int32) (A : ruA) : Option (Int32) :=
  (rudO x0 7).bind fun _ =>
  (if (A.1 x0 0) = (8 : Int32) then
  some (x1).toInt8.toInt32
else
  (if (A.1 x0 0) = (16 : Int32) then
  some (x1).toInt16.toInt32
else
  some x1))
def fX10_write (x1 : Int32) (x2 : Int32) (x3 : Int32) (A : ruA) : Option (Int32 × ruA) :=
  (fX10_isSlip x1).bind fun v1 =>
  (if v1 = 0 then
  ruB2 (fX10_finding (-1000001 : Int32) A) fun v14 A15 =>
  some (v14, A15)
else
  (rulr A 73 4 x1).bind fun c2 =>
  (rudO c2 7).bind fun _ =>
  (fX7_isMissing c2 A).bind fun v4 =>
  (if v4 = 0 then
  (fX10_isWithin x2 (0 : Int32) ((A.1 c2 1) - (1 : Int32))).bind fun v5 =>
  (if v5 = 0 then
  ruB2 (fX10_finding (-1000001 : Int32) A) fun v10 A11 =>
  some (v10, A11)
else
  (ruref A c2 2).bind fun c6 =>
  (fX7_lowestBits c2 x3 A).bind fun v7 =>
  (rudI c6).bind fun n8 =>
  (rust A c6 n8 x2 v7).bind fun A9 =>
  some ((1 : Int32), A9))
else
  ruB2 (fX10_finding (-1000006 : Int32) A) fun v12 A13 =>
  some (v12, A13)))
def fX7_hasPart (x0 : Nat) (x1 : Int32) (x2 : Int32) (A : ruA) : Option (Int32) :=
  (if x1 < 0 then
  some (0 : Int32)
else
  (if x2 < 0 then
  some (0 : Int32)
else
  (rudO x0 7).bind fun _ =>
  (if ((A.1 x0 1) - x2) < x1 then
  some (0 : Int32)
else
  some (1 : Int32))))
def fX10_copy (x1 : Int32) (x2 : Int32) (x3 : Int32) (x4 : Int32) (x5 : Int32) (A : ruA) : Option (Int32 × ruA) :=
  (fX10_isSlip x1).bind fun v1 =>
  (if v1 = 0 then
  ruB2 (fX10_finding (-1000001 : Int32) A) fun v2 A3 =>
  some (v2, A3)
else
  (fX10_isSlip x3).bind fun v4 =>
  (if v4 = 0 then
  ruB2 (fX10_finding (-1000001 : Int32) A) fun v28 A29 =>
  some (v28, A29)
else
  (rulr A 73 4 x1).bind fun c5 =>
  (rulr A 73 4 x3).bind fun c6 =>
  (rudO c5 7).bind fun _ =>
  (fX7_isMissing c5 A).bind fun v8 =>
  (if v8 = 0 then
  (rudO c6 7).bind fun _ =>
  (fX7_isMissing c6 A).bind fun v12 =>
  (if v12 = 0 then
  (if (A.1 c5 0) = (A.1 c6 0) then
  (fX7_hasPart c5 x2 x5 A).bind fun v13 =>
  (if v13 = 0 then
  ruB2 (fX10_finding (-1000001 : Int32) A) fun v14 A15 =>
  some (v14, A15)
else
  (fX7_hasPart c6 x4 x5 A).bind fun v16 =>
  (if v16 = 0 then
  ruB2 (fX10_finding (-1000001 : Int32) A) fun v22 A23 =>
  some (v22, A23)
else
  (ruref A c5 2).bind fun c17 =>
  (ruref A c6 2).bind fun c18 =>
  (rudI c17).bind fun n19 =>
  (rudI c18).bind fun n20 =>
  (rucpy A c17 n19 x2 c18 n20 x4 x5).bind fun A21 =>
  some (x5, A21)))
else
  ruB2 (fX10_finding (-1000003 : Int32) A) fun v24 A25 =>
  some (v24, A25))
else
  ruB2 (fX10_finding (-1000006 : Int32) A) fun v26 A27 =>
  some (v26, A27))
else
  ruB2 (fX10_finding (-1000006 : Int32) A) fun v9 A10 =>
  some (v9, A10))))
def fX10_check_l74 {β : Type} (x1 : Int32) (x2 : Int32) (x4 : Nat) (k113 : Int32 → ruA → Option (β)) (k122 : ruA → Option (β)) : Nat → Int32 → ruA → Option (β)
  | 0, _, _ => none
  | n + 1, x5, A =>
  (rudO x4 7).bind fun _ =>
  (if (A.1 x4 1) ≤ x5 then
  k122 A
else
  (if (7 : Int32) ≤ x5 then
  k113 x5 A
else
  (ruref A x4 2).bind fun c13 =>
  (rudI c13).bind fun n15 =>
  (ruld (A.1 c13) n15 x5).bind fun v14 =>
  ruB2 (fX3_of x5 x1 x2 A) fun v16 A17 =>
  (if v14 = v16 then
  fX10_check_l74 x1 x2 x4 k113 k122 n (x5 + (1 : Int32)) A17
else
  k113 x5 A17)))
def fX10_check (x1 : Int32) (x2 : Int32) (x3 : Int32) (A : ruA) : Option (Int32 × ruA) :=
  (fX10_isRoom x1 A).bind fun v1 =>
  (if v1 = 0 then
  ruB2 (fX10_finding (-1000001 : Int32) A) fun v2 A3 =>
  some (v2, A3)
else
  (fX10_isYear x2).bind fun v4 =>
  (if v4 = 0 then
  ruB2 (fX10_finding (-1000001 : Int32) A) fun v5 A6 =>
  some (v5, A6)
else
  (fX10_isSlip x3).bind fun v7 =>
  (if v7 = 0 then
  ruB2 (fX10_finding (-1000001 : Int32) A) fun v25 A26 =>
  some (v25, A26)
else
  (rulr A 73 4 x3).bind fun c8 =>
  (rudO c8 7).bind fun _ =>
  (fX7_isMissing c8 A).bind fun v10 =>
  (if v10 = 0 then
  (fX3_hasSheets x1 x2 A).bind fun v11 =>
  (if v11 = 0 then
  ruB2 (fX10_finding (-1000004 : Int32) A) fun v21 A22 =>
  some (v21, A22)
else
  fX10_check_l74 x1 x2 c8
  (fun v18 A19 => some (v18, A19))
  (fun A20 => some ((A20.1 c8 1), A20)) ruF (0 : Int32) A)
else
  ruB2 (fX10_finding (-1000006 : Int32) A) fun v23 A24 =>
  some (v23, A24)))))
def fX5_become (A : ruA) : Option (ruA) :=
  (some (ruset A 33 0 (A.1 2 0))).bind fun A1 =>
  (some (ruset A1 33 1 (A1.1 2 1))).bind fun A2 =>
  (some (ruset A2 33 2 (A2.1 2 2))).bind fun A3 =>
  (rucpy A3 3 12 (0 : Int32) 34 12 (0 : Int32) (12 : Int32)).bind fun A4 =>
  (rucpy A4 4 12 (0 : Int32) 35 12 (0 : Int32) (12 : Int32)).bind fun A5 =>
  (rucpy A5 5 24 (0 : Int32) 36 24 (0 : Int32) (24 : Int32)).bind fun A6 =>
  (rucpy A6 6 24 (0 : Int32) 37 24 (0 : Int32) (24 : Int32)).bind fun A7 =>
  (rucpy A7 7 24 (0 : Int32) 38 24 (0 : Int32) (24 : Int32)).bind fun A8 =>
  (rucpy A8 8 24 (0 : Int32) 39 24 (0 : Int32) (24 : Int32)).bind fun A9 =>
  some A9
def fX6_become_l2 {β : Type} (k27 : ruA → Option (β)) : Nat → Int32 → ruA → Option (β)
  | 0, _, _ => none
  | n + 1, x2, A =>
  (if (144 : Int32) ≤ x2 then
  k27 A
else
  (ruld (A.1 10) 144 x2).bind fun v1 =>
  (rust A 41 144 x2 (v1 &&& 1)).bind fun A2 =>
  fX6_become_l2 k27 n (x2 + (1 : Int32)) A2)
def fX6_become (A : ruA) : Option (ruA) :=
  fX6_become_l2
  (fun A3 => (rucpy A3 11 1728 (0 : Int32) 42 1728 (0 : Int32) (1728 : Int32)).bind fun A4 =>
  (rucpy A4 12 1728 (0 : Int32) 43 1728 (0 : Int32) (1728 : Int32)).bind fun A5 =>
  (rucpy A5 13 432 (0 : Int32) 44 432 (0 : Int32) (432 : Int32)).bind fun A6 =>
  some A6) ruF (0 : Int32) A
def fX9_become_l10 {β : Type} (k53 : ruA → Option (β)) : Nat → Int32 → ruA → Option (β)
  | 0, _, _ => none
  | n + 1, x2, A =>
  (if (6 : Int32) ≤ x2 then
  k53 A
else
  (ruld (A.1 22) 6 x2).bind fun v2 =>
  (rust A 53 6 x2 v2).bind fun A3 =>
  (rulr A3 15 6 x2).bind fun c4 =>
  (rulr A3 46 6 x2).bind fun c5 =>
  (rudI c4).bind fun n6 =>
  (rudI c5).bind fun n7 =>
  (rucpy A3 c4 n6 (0 : Int32) c5 n7 (0 : Int32) (100 : Int32)).bind fun A8 =>
  fX9_become_l10 k53 n (x2 + (1 : Int32)) A8)
def fX9_become (A : ruA) : Option (ruA) :=
  (some (ruset A 45 0 (A.1 14 0))).bind fun A1 =>
  fX9_become_l10
  (fun A9 => some A9) ruF (0 : Int32) A1
def fX2_become (A : ruA) : Option (ruA) :=
  (some (ruset A 54 0 (A.1 23 0))).bind fun A1 =>
  (rucpy A1 24 30 (0 : Int32) 55 30 (0 : Int32) (30 : Int32)).bind fun A2 =>
  (rucpy A2 25 30 (0 : Int32) 56 30 (0 : Int32) (30 : Int32)).bind fun A3 =>
  (rucpy A3 26 30 (0 : Int32) 57 30 (0 : Int32) (30 : Int32)).bind fun A4 =>
  (rucpy A4 27 30 (0 : Int32) 58 30 (0 : Int32) (30 : Int32)).bind fun A5 =>
  some A5
def fX1_become (A : ruA) : Option (ruA) :=
  (some (ruset A 60 0 (A.1 29 0))).bind fun A1 =>
  (rucpy A1 30 8 (0 : Int32) 61 8 (0 : Int32) (8 : Int32)).bind fun A2 =>
  (rucpy A2 31 8 (0 : Int32) 62 8 (0 : Int32) (8 : Int32)).bind fun A3 =>
  some A3
def fX0_become (A : ruA) : Option (ruA) :=
  (fX5_become A).bind fun A1 =>
  (fX6_become A1).bind fun A2 =>
  (fX9_become A2).bind fun A3 =>
  (fX2_become A3).bind fun A4 =>
  (fX1_become A4).bind fun A5 =>
  some A5
def fX10_image (A : ruA) : Option (Int32 × ruA) :=
  (fX0_become A).bind fun A1 =>
  (some (ruset A1 0 2 (1 : Int32))).bind fun A2 =>
  some ((1 : Int32), A2)
def fX5_become_1 (A : ruA) : Option (ruA) :=
  (some (ruset A 2 0 (A.1 33 0))).bind fun A1 =>
  (some (ruset A1 2 1 (A1.1 33 1))).bind fun A2 =>
  (some (ruset A2 2 2 (A2.1 33 2))).bind fun A3 =>
  (rucpy A3 34 12 (0 : Int32) 3 12 (0 : Int32) (12 : Int32)).bind fun A4 =>
  (rucpy A4 35 12 (0 : Int32) 4 12 (0 : Int32) (12 : Int32)).bind fun A5 =>
  (rucpy A5 36 24 (0 : Int32) 5 24 (0 : Int32) (24 : Int32)).bind fun A6 =>
  (rucpy A6 37 24 (0 : Int32) 6 24 (0 : Int32) (24 : Int32)).bind fun A7 =>
  (rucpy A7 38 24 (0 : Int32) 7 24 (0 : Int32) (24 : Int32)).bind fun A8 =>
  (rucpy A8 39 24 (0 : Int32) 8 24 (0 : Int32) (24 : Int32)).bind fun A9 =>
  some A9
def fX6_become_1_l2 {β : Type} (k27 : ruA → Option (β)) : Nat → Int32 → ruA → Option (β)
  | 0, _, _ => none
  | n + 1, x2, A =>
  (if (144 : Int32) ≤ x2 then
  k27 A
else
  (ruld (A.1 41) 144 x2).bind fun v1 =>
  (rust A 10 144 x2 (v1 &&& 1)).bind fun A2 =>
  fX6_become_1_l2 k27 n (x2 + (1 : Int32)) A2)
def fX6_become_1 (A : ruA) : Option (ruA) :=
  fX6_become_1_l2
  (fun A3 => (rucpy A3 42 1728 (0 : Int32) 11 1728 (0 : Int32) (1728 : Int32)).bind fun A4 =>
  (rucpy A4 43 1728 (0 : Int32) 12 1728 (0 : Int32) (1728 : Int32)).bind fun A5 =>
  (rucpy A5 44 432 (0 : Int32) 13 432 (0 : Int32) (432 : Int32)).bind fun A6 =>
  some A6) ruF (0 : Int32) A
def fX9_become_1_l10 {β : Type} (k53 : ruA → Option (β)) : Nat → Int32 → ruA → Option (β)
  | 0, _, _ => none
  | n + 1, x2, A =>
  (if (6 : Int32) ≤ x2 then
  k53 A
else
  (ruld (A.1 53) 6 x2).bind fun v2 =>
  (rust A 22 6 x2 v2).bind fun A3 =>
  (rulr A3 46 6 x2).bind fun c4 =>
  (rulr A3 15 6 x2).bind fun c5 =>
  (rudI c4).bind fun n6 =>
  (rudI c5).bind fun n7 =>
  (rucpy A3 c4 n6 (0 : Int32) c5 n7 (0 : Int32) (100 : Int32)).bind fun A8 =>
  fX9_become_1_l10 k53 n (x2 + (1 : Int32)) A8)
def fX9_become_1 (A : ruA) : Option (ruA) :=
  (some (ruset A 14 0 (A.1 45 0))).bind fun A1 =>
  fX9_become_1_l10
  (fun A9 => some A9) ruF (0 : Int32) A1
def fX2_become_1 (A : ruA) : Option (ruA) :=
  (some (ruset A 23 0 (A.1 54 0))).bind fun A1 =>
  (rucpy A1 55 30 (0 : Int32) 24 30 (0 : Int32) (30 : Int32)).bind fun A2 =>
  (rucpy A2 56 30 (0 : Int32) 25 30 (0 : Int32) (30 : Int32)).bind fun A3 =>
  (rucpy A3 57 30 (0 : Int32) 26 30 (0 : Int32) (30 : Int32)).bind fun A4 =>
  (rucpy A4 58 30 (0 : Int32) 27 30 (0 : Int32) (30 : Int32)).bind fun A5 =>
  some A5
def fX1_become_1 (A : ruA) : Option (ruA) :=
  (some (ruset A 29 0 (A.1 60 0))).bind fun A1 =>
  (rucpy A1 61 8 (0 : Int32) 30 8 (0 : Int32) (8 : Int32)).bind fun A2 =>
  (rucpy A2 62 8 (0 : Int32) 31 8 (0 : Int32) (8 : Int32)).bind fun A3 =>
  some A3
def fX0_become_1 (A : ruA) : Option (ruA) :=
  (fX5_become_1 A).bind fun A1 =>
  (fX6_become_1 A1).bind fun A2 =>
  (fX9_become_1 A2).bind fun A3 =>
  (fX2_become_1 A3).bind fun A4 =>
  (fX1_become_1 A4).bind fun A5 =>
  some A5
def fX10_undo (A : ruA) : Option (Int32 × ruA) :=
  (if (A.1 0 2) = 0 then
  ruB2 (fX10_finding (-1000004 : Int32) A) fun v2 A3 =>
  some (v2, A3)
else
  (fX0_become_1 A).bind fun A1 =>
  some ((A1.1 2 0), A1))
def fX10_tear (A : ruA) : Option (Int32 × ruA) :=
  (some (ruset A 0 2 (0 : Int32))).bind fun A1 =>
  (if (A.1 0 2) = 0 then
  some ((0 : Int32), A1)
else
  some ((1 : Int32), A1))
def fX6_howManyIn_l4 {β : Type} (x1 : Int32) (A : ruA) (k32 : Int32 → Option (β)) : Nat → Int32 → Int32 → Option (β)
  | 0, _, _ => none
  | n + 1, x2, x3 =>
  (if (24 : Int32) ≤ x3 then
  k32 x2
else
  (fX6_place x3 x1).bind fun v1 =>
  (ruld (A.1 10) 144 v1).bind fun v2 =>
  ((if v2 = 0 then
  some x2
else
  some (x2 + (1 : Int32)))).bind fun v3 =>
  fX6_howManyIn_l4 x1 A k32 n v3 (x3 + (1 : Int32)))
def fX6_howManyIn (x1 : Int32) (A : ruA) : Option (Int32) :=
  fX6_howManyIn_l4 x1 A
  (fun v4 => some v4) ruF (0 : Int32) (0 : Int32)
def fX6_howMany_l4 {β : Type} (A : ruA) (k24 : Int32 → Option (β)) : Nat → Int32 → Int32 → Option (β)
  | 0, _, _ => none
  | n + 1, x1, x2 =>
  (if (6 : Int32) ≤ x2 then
  k24 x1
else
  (fX6_howManyIn x2 A).bind fun v1 =>
  fX6_howMany_l4 A k24 n (x1 + v1) (x2 + (1 : Int32)))
def fX6_howMany (A : ruA) : Option (Int32) :=
  fX6_howMany_l4 A
  (fun v2 => some v2) ruF (0 : Int32) (0 : Int32)
def fX6_allFilled_l4 {β : Type} (A : ruA) (k34 : Int32 → Option (β)) : Nat → Int32 → Int32 → Option (β)
  | 0, _, _ => none
  | n + 1, x1, x2 =>
  (if (144 : Int32) ≤ x2 then
  k34 x1
else
  (ruld (A.1 10) 144 x2).bind fun v1 =>
  ((if v1 = 0 then
  some x1
else
  (fX6_filled x2 A).bind fun v3 =>
  some (x1 + v3))).bind fun v2 =>
  fX6_allFilled_l4 A k34 n v2 (x2 + (1 : Int32)))
def fX6_allFilled (A : ruA) : Option (Int32) :=
  fX6_allFilled_l4 A
  (fun v4 => some v4) ruF (0 : Int32) (0 : Int32)
def fX6_allRights_l4 {β : Type} (A : ruA) (k35 : Int32 → Option (β)) : Nat → Int32 → Int32 → Option (β)
  | 0, _, _ => none
  | n + 1, x2, x3 =>
  (if (144 : Int32) ≤ x3 then
  k35 x2
else
  (ruld (A.1 10) 144 x3).bind fun v1 =>
  ((if v1 = 0 then
  some x2
else
  (fX6_rights x3 A).bind fun v3 =>
  some (x2 + v3))).bind fun v2 =>
  fX6_allRights_l4 A k35 n v2 (x3 + (1 : Int32)))
def fX6_allRights (A : ruA) : Option (Int32) :=
  fX6_allRights_l4 A
  (fun v4 => some v4) ruF (0 : Int32) (0 : Int32)
def fX10_count (x1 : Int32) (A : ruA) : Option (Int32 × ruA) :=
  (if x1 = (0 : Int32) then
  some ((A.1 2 1), A)
else
  (if x1 = (1 : Int32) then
  some ((A.1 2 2), A)
else
  (if x1 = (2 : Int32) then
  (fX6_howManyIn (A.1 2 0) A).bind fun v1 =>
  some (v1, A)
else
  (if x1 = (3 : Int32) then
  (fX6_howMany A).bind fun v2 =>
  some (v2, A)
else
  (if x1 = (4 : Int32) then
  some ((A.1 14 0), A)
else
  (if x1 = (5 : Int32) then
  some ((A.1 29 0), A)
else
  (if x1 = (6 : Int32) then
  some ((A.1 23 0), A)
else
  (if x1 = (7 : Int32) then
  some ((A.1 0 9), A)
else
  (if x1 = (8 : Int32) then
  some ((A.1 2 0), A)
else
  (if x1 = (9 : Int32) then
  (fX6_allFilled A).bind fun v3 =>
  some (v3, A)
else
  (if x1 = (10 : Int32) then
  (fX6_allRights A).bind fun v4 =>
  some (v4, A)
else
  ruB2 (fX10_finding (-1000001 : Int32) A) fun v5 A6 =>
  some (v5, A6))))))))))))
def fX10_status_l32 {β : Type} (A : ruA) (k53 : Int32 → Option (β)) : Nat → Int32 → Int32 → Option (β)
  | 0, _, _ => none
  | n + 1, x2, x3 =>
  (if (7 : Int32) ≤ x3 then
  k53 x2
else
  (ruld (A.1 82) 7 x3).bind fun v2 =>
  fX10_status_l32 A k53 n (x2 + v2) (x3 + (1 : Int32)))
def fX10_status (x1 : Int32) (A : ruA) : Option (Int32 × ruA) :=
  (fX10_isWithin x1 (-1 : Int32) (6 : Int32)).bind fun v1 =>
  (if v1 = 0 then
  ruB2 (fX10_finding (-1000001 : Int32) A) fun v5 A6 =>
  some (v5, A6)
else
  (if x1 < 0 then
  fX10_status_l32 A
  (fun v3 => some (v3, A)) ruF (0 : Int32) (0 : Int32)
else
  (ruld (A.1 82) 7 x1).bind fun v4 =>
  some (v4, A)))
def fX11_within (x0 : Int32) (x1 : Int32) (x2 : Int32) : Option (Int32) :=
  (if x0 < x1 then
  some (0 : Int32)
else
  (if x2 < x0 then
  some (0 : Int32)
else
  some (1 : Int32)))
def fX11_isQuestion (x0 : Int32) : Option (Int32) :=
  (fX11_within x0 (0 : Int32) (11 : Int32)).bind fun v1 =>
  (rubz v1).bind fun _ => some v1
def fX11_finding (x1 : Int32) (A : ruA) : Option (Int32 × ruA) :=
  (ruld (A.1 86) 7 ((-1000001 : Int32) - x1)).bind fun v1 =>
  (rust A 86 7 ((-1000001 : Int32) - x1) (v1 + (1 : Int32))).bind fun A2 =>
  some (x1, A2)
def fX11_question (x1 : Int32) (x2 : Int32) (x3 : Int32) (A : ruA) : Option (Int32 × ruA) :=
  (fX11_isQuestion x1).bind fun v1 =>
  (if v1 = 0 then
  ruB2 (fX11_finding (-1000001 : Int32) A) fun v2 A3 =>
  some (v2, A3)
else
  (fX11_within x2 (0 : Int32) (1 : Int32)).bind fun v4 =>
  (if v4 = 0 then
  ruB2 (fX11_finding (-1000001 : Int32) A) fun v5 A6 =>
  some (v5, A6)
else
  ((if x2 = 0 then
  some (3 : Int32)
else
  some (9 : Int32))).bind fun v7 =>
  (fX11_within x3 (0 : Int32) v7).bind fun v8 =>
  (if v8 = 0 then
  ruB2 (fX11_finding (-1000001 : Int32) A) fun v12 A13 =>
  some (v12, A13)
else
  ((if x2 = 0 then
  some (8 : Int32)
else
  some (20 : Int32))).bind fun v9 =>
  (ruld (A.1 84) 4920 (v9 + x1)).bind fun v10 =>
  (rust A 84 4920 (v9 + x1) x3).bind fun A11 =>
  some (v10, A11))))
def fX11_room (A : ruA) : Option (Int32 × ruA) :=
  (ruld (A.1 84) 4920 (1 : Int32)).bind fun v1 =>
  (if v1 = (6 : Int32) then
  ruB2 (fX11_finding (-1000002 : Int32) A) fun v5 A6 =>
  some (v5, A6)
else
  (ruld (A.1 84) 4920 (1 : Int32)).bind fun v2 =>
  (rust A 84 4920 (1 : Int32) (v2 + (1 : Int32))).bind fun A3 =>
  (ruld (A3.1 84) 4920 (1 : Int32)).bind fun v4 =>
  some ((v4 - (1 : Int32)), A3))
def fX11_is (x1 : Int32) (x2 : Int32) (A : ruA) : Option (Int32) :=
  (ruld (A.1 84) 4920 x2).bind fun v1 =>
  (fX11_within x1 (0 : Int32) (v1 - (1 : Int32))).bind fun v2 =>
  (rubz v2).bind fun _ => some v2
def fX11_childOf (x1 : Int32) (x2 : Int32) (A : ruA) : Option (Int32) :=
  (ruld (A.1 84) 4920 (((32 : Int32) + ((4 : Int32) * x1)) + x2)).bind fun v1 =>
  some v1
def fX11_sheetAt (x0 : Int32) (x1 : Int32) : Option (Int32) :=
  some ((128 : Int32) + ((28 : Int32) * (((6 : Int32) * x0) + x1)))
def fX11_child_l28 {β : Type} (x1 : Int32) (x2 : Int32) (A : ruA) (k58 : Option (β)) (k71 : Option (β)) : Nat → Int32 → Option (β)
  | 0, _ => none
  | n + 1, x3 =>
  (ruld (A.1 84) 4920 (2 : Int32)).bind fun v5 =>
  (if v5 ≤ x3 then
  k71
else
  (fX11_childOf x3 (0 : Int32) A).bind fun v6 =>
  (if v6 = x1 then
  (fX11_childOf x3 (1 : Int32) A).bind fun v7 =>
  (if v7 = x2 then
  k58
else
  fX11_child_l28 x1 x2 A k58 k71 n (x3 + (1 : Int32)))
else
  fX11_child_l28 x1 x2 A k58 k71 n (x3 + (1 : Int32))))
def fX11_child_l148 {β : Type} (x3 : Int32) (k173 : ruA → Option (β)) : Nat → Int32 → ruA → Option (β)
  | 0, _, _ => none
  | n + 1, x4, A =>
  (if (6 : Int32) ≤ x4 then
  k173 A
else
  (fX11_sheetAt x3 x4).bind fun v15 =>
  (rust A 84 4920 v15 (0 : Int32)).bind fun A16 =>
  fX11_child_l148 x3 k173 n (x4 + (1 : Int32)) A16)
def fX11_child (x1 : Int32) (x2 : Int32) (A : ruA) : Option (Int32 × ruA) :=
  (fX11_is x1 (1 : Int32) A).bind fun v1 =>
  (if v1 = 0 then
  ruB2 (fX11_finding (-1000001 : Int32) A) fun v2 A3 =>
  some (v2, A3)
else
  (fX11_within x2 (0 : Int32) (19 : Int32)).bind fun v4 =>
  (if v4 = 0 then
  ruB2 (fX11_finding (-1000001 : Int32) A) fun v22 A23 =>
  some (v22, A23)
else
  fX11_child_l28 x1 x2 A
  (ruB2 (fX11_finding (-1000005 : Int32) A) fun v8 A9 =>
  some (v8, A9))
  ((ruld (A.1 84) 4920 (2 : Int32)).bind fun v10 =>
  (if v10 = (24 : Int32) then
  ruB2 (fX11_finding (-1000002 : Int32) A) fun v20 A21 =>
  some (v20, A21)
else
  (rust A 84 4920 ((32 : Int32) + ((4 : Int32) * v10)) x1).bind fun A11 =>
  (rust A11 84 4920 (((32 : Int32) + ((4 : Int32) * v10)) + (1 : Int32)) x2).bind fun A12 =>
  (rust A12 84 4920 (((32 : Int32) + ((4 : Int32) * v10)) + (2 : Int32)) (0 : Int32)).bind fun A13 =>
  (rust A13 84 4920 (((32 : Int32) + ((4 : Int32) * v10)) + (3 : Int32)) (0 : Int32)).bind fun A14 =>
  fX11_child_l148 v10
  (fun A17 => (ruld (A17.1 84) 4920 (2 : Int32)).bind fun v18 =>
  (rust A17 84 4920 (2 : Int32) (v18 + (1 : Int32))).bind fun A19 =>
  some (v10, A19)) ruF (0 : Int32) A14)) ruF (0 : Int32)))
def fX11_has (x0 : Int32) (x1 : Int32) : Option (Int32) :=
  (if ((x0 >>> (x1 &&& 31)) &&& (1 : Int32)) = (1 : Int32) then
  some (1 : Int32)
else
  some (0 : Int32))
def fX11_learn (x1 : Int32) (x2 : Int32) (x3 : Int32) (A : ruA) : Option (Int32 × ruA) :=
  (fX11_is x1 (2 : Int32) A).bind fun v1 =>
  (if v1 = 0 then
  ruB2 (fX11_finding (-1000001 : Int32) A) fun v2 A3 =>
  some (v2, A3)
else
  (fX11_isQuestion x2).bind fun v4 =>
  (if v4 = 0 then
  ruB2 (fX11_finding (-1000001 : Int32) A) fun v15 A16 =>
  some (v15, A16)
else
  (ruld (A.1 84) 4920 (((32 : Int32) + ((4 : Int32) * x1)) + (2 : Int32))).bind fun v5 =>
  (fX11_has v5 x2).bind fun v6 =>
  ((if v6 = 0 then
  some (1 : Int32)
else
  (if x3 = 0 then
  some (0 : Int32)
else
  (ruld (A.1 84) 4920 (((32 : Int32) + ((4 : Int32) * x1)) + (3 : Int32))).bind fun v8 =>
  (fX11_has v8 x2).bind fun v9 =>
  (if v9 = 0 then
  some (1 : Int32)
else
  some (0 : Int32))))).bind fun v7 =>
  (ruld (A.1 84) 4920 (((32 : Int32) + ((4 : Int32) * x1)) + (2 : Int32))).bind fun v10 =>
  (rust A 84 4920 (((32 : Int32) + ((4 : Int32) * x1)) + (2 : Int32)) (v10 ||| ((1 : Int32) <<< (x2 &&& 31)))).bind fun A11 =>
  (ruld (A11.1 84) 4920 (((32 : Int32) + ((4 : Int32) * x1)) + (3 : Int32))).bind fun v12 =>
  ((if x3 = 0 then
  some (0 : Int32)
else
  some ((1 : Int32) <<< (x2 &&& 31)))).bind fun v13 =>
  (rust A11 84 4920 (((32 : Int32) + ((4 : Int32) * x1)) + (3 : Int32)) (v12 ||| v13)).bind fun A14 =>
  (if v7 = 0 then
  some ((0 : Int32), A14)
else
  some ((1 : Int32), A14))))
def fX11_forget (x1 : Int32) (x2 : Int32) (A : ruA) : Option (Int32 × ruA) :=
  (fX11_is x1 (2 : Int32) A).bind fun v1 =>
  (if v1 = 0 then
  ruB2 (fX11_finding (-1000001 : Int32) A) fun v2 A3 =>
  some (v2, A3)
else
  (fX11_isQuestion x2).bind fun v4 =>
  (if v4 = 0 then
  ruB2 (fX11_finding (-1000001 : Int32) A) fun v11 A12 =>
  some (v11, A12)
else
  (ruld (A.1 84) 4920 (((32 : Int32) + ((4 : Int32) * x1)) + (2 : Int32))).bind fun v5 =>
  (fX11_has v5 x2).bind fun v6 =>
  (ruld (A.1 84) 4920 (((32 : Int32) + ((4 : Int32) * x1)) + (2 : Int32))).bind fun v7 =>
  (rust A 84 4920 (((32 : Int32) + ((4 : Int32) * x1)) + (2 : Int32)) (v7 &&& (((1 : Int32) <<< (x2 &&& 31)) ^^^ (-1 : Int32)))).bind fun A8 =>
  (ruld (A8.1 84) 4920 (((32 : Int32) + ((4 : Int32) * x1)) + (3 : Int32))).bind fun v9 =>
  (rust A8 84 4920 (((32 : Int32) + ((4 : Int32) * x1)) + (3 : Int32)) (v9 &&& (((1 : Int32) <<< (x2 &&& 31)) ^^^ (-1 : Int32)))).bind fun A10 =>
  (if v6 = 0 then
  some ((0 : Int32), A10)
else
  some ((1 : Int32), A10))))
def fX11_hasSheet (x1 : Int32) (x2 : Int32) (A : ruA) : Option (Int32) :=
  (fX11_sheetAt x1 x2).bind fun v1 =>
  (ruld (A.1 84) 4920 v1).bind fun v2 =>
  (if v2 = (1 : Int32) then
  some (1 : Int32)
else
  some (0 : Int32))
def fX11_childIs_l42 {β : Type} (x1 : Int32) (A : ruA) (k73 : Int32 → Option (β)) : Nat → Int32 → Int32 → Option (β)
  | 0, _, _ => none
  | n + 1, x3, x4 =>
  (if (6 : Int32) ≤ x4 then
  k73 x3
else
  (fX11_hasSheet x1 x4 A).bind fun v5 =>
  ((if v5 = 0 then
  some (0 : Int32)
else
  some (1 : Int32))).bind fun v6 =>
  fX11_childIs_l42 x1 A k73 n (x3 + v6) (x4 + (1 : Int32)))
def fX11_childIs (x1 : Int32) (x2 : Int32) (A : ruA) : Option (Int32 × ruA) :=
  (fX11_is x1 (2 : Int32) A).bind fun v1 =>
  (if v1 = 0 then
  ruB2 (fX11_finding (-1000001 : Int32) A) fun v2 A3 =>
  some (v2, A3)
else
  (fX11_within x2 (0 : Int32) (4 : Int32)).bind fun v4 =>
  (if v4 = 0 then
  ruB2 (fX11_finding (-1000001 : Int32) A) fun v9 A10 =>
  some (v9, A10)
else
  (if (4 : Int32) ≤ x2 then
  fX11_childIs_l42 x1 A
  (fun v7 => some (v7, A)) ruF (0 : Int32) (0 : Int32)
else
  (fX11_childOf x1 x2 A).bind fun v8 =>
  some (v8, A))))
def fX11_year (A : ruA) : Option (Int32 × ruA) :=
  (ruld (A.1 84) 4920 (0 : Int32)).bind fun v1 =>
  (if v1 = (5 : Int32) then
  ruB2 (fX11_finding (-1000002 : Int32) A) fun v5 A6 =>
  some (v5, A6)
else
  (ruld (A.1 84) 4920 (0 : Int32)).bind fun v2 =>
  (rust A 84 4920 (0 : Int32) (v2 + (1 : Int32))).bind fun A3 =>
  (ruld (A3.1 84) 4920 (0 : Int32)).bind fun v4 =>
  some (v4, A3))
def fX11_fresh_l13 {β : Type} (x2 : Int32) (k52 : ruA → Option (β)) : Nat → Int32 → ruA → Option (β)
  | 0, _, _ => none
  | n + 1, x3, A =>
  (if (28 : Int32) ≤ x3 then
  k52 A
else
  ((if x3 = 0 then
  some (1 : Int32)
else
  (if (13 : Int32) ≤ x3 then
  some (0 : Int32)
else
  some (-1 : Int32)))).bind fun v3 =>
  (rust A 84 4920 (x2 + x3) v3).bind fun A4 =>
  fX11_fresh_l13 x2 k52 n (x3 + (1 : Int32)) A4)
def fX11_fresh (x1 : Int32) (A : ruA) : Option (Int32 × ruA) :=
  (ruld (A.1 84) 4920 (0 : Int32)).bind fun v1 =>
  (fX11_sheetAt x1 v1).bind fun v2 =>
  fX11_fresh_l13 v2
  (fun A5 => some (v2, A5)) ruF (0 : Int32) A
def fX11_put (x1 : Int32) (x2 : Int32) (x3 : Int32) (x4 : Int32) (A : ruA) : Option (ruA) :=
  (rust A 84 4920 ((x1 + (1 : Int32)) + x2) x4).bind fun A1 =>
  (rust A1 84 4920 ((x1 + (13 : Int32)) + x2) x3).bind fun A2 =>
  some A2
def fX11_choice (x1 : Int32) (x2 : Int32) (x3 : Int32) (A : ruA) : Option (Int32) :=
  (fX11_sheetAt x1 x2).bind fun v1 =>
  (ruld (A.1 84) 4920 ((v1 + (1 : Int32)) + x3)).bind fun v2 =>
  some v2
def fX11_isRight (x1 : Int32) (x2 : Int32) (x3 : Int32) (A : ruA) : Option (Int32) :=
  (fX11_choice x1 x2 x3 A).bind fun v1 =>
  (ruld (A.1 84) 4920 ((8 : Int32) + x3)).bind fun v2 =>
  (if v1 = v2 then
  some (1 : Int32)
else
  some (0 : Int32))
def fX11_rights_l5 {β : Type} (x1 : Int32) (x2 : Int32) (A : ruA) (k37 : Int32 → Option (β)) : Nat → Int32 → Int32 → Option (β)
  | 0, _, _ => none
  | n + 1, x3, x4 =>
  (if (12 : Int32) ≤ x4 then
  k37 x3
else
  (fX11_isRight x1 x2 x4 A).bind fun v1 =>
  ((if v1 = 0 then
  some (0 : Int32)
else
  some (1 : Int32))).bind fun v2 =>
  fX11_rights_l5 x1 x2 A k37 n (x3 + v2) (x4 + (1 : Int32)))
def fX11_rights (x1 : Int32) (x2 : Int32) (A : ruA) : Option (Int32) :=
  fX11_rights_l5 x1 x2 A
  (fun v3 => some v3) ruF (0 : Int32) (0 : Int32)
def fX11_sit_l49 {β : Type} (x1 : Int32) (x3 : Int32) (k169 : ruA → Option (β)) : Nat → Int32 → Int32 → ruA → Option (β)
  | 0, _, _, _ => none
  | n + 1, x4, x5, A =>
  (if (12 : Int32) ≤ x5 then
  k169 A
else
  (fX11_childOf x1 (3 : Int32) A).bind fun v6 =>
  (fX11_has v6 x5).bind fun v7 =>
  ruB2 ((if v7 = 0 then
  (fX11_childOf x1 (2 : Int32) A).bind fun v10 =>
  (fX11_has v10 x5).bind fun v11 =>
  (if v11 = 0 then
  (if (4 : Int32) ≤ ((ruushr ((x4 * (1103515245 : Int32)) + (12345 : Int32)) (16 : Int32)) - (ruushr ((x4 * (1103515245 : Int32)) + (12345 : Int32)) (16 : Int32)) / (5 : Int32) * (5 : Int32)) then
  some (((x4 * (1103515245 : Int32)) + (12345 : Int32)), A)
else
  (fX11_put x3 x5 (7 : Int32) ((ruushr ((x4 * (1103515245 : Int32)) + (12345 : Int32)) (16 : Int32)) - (ruushr ((x4 * (1103515245 : Int32)) + (12345 : Int32)) (16 : Int32)) / (5 : Int32) * (5 : Int32)) A).bind fun A12 =>
  some (((x4 * (1103515245 : Int32)) + (12345 : Int32)), A12))
else
  (ruld (A.1 84) 4920 ((8 : Int32) + x5)).bind fun v13 =>
  (fX11_put x3 x5 (1 : Int32) v13 A).bind fun A14 =>
  some (x4, A14))
else
  (ruld (A.1 84) 4920 ((8 : Int32) + x5)).bind fun v15 =>
  (fX11_put x3 x5 (2 : Int32) v15 A).bind fun A16 =>
  some (x4, A16))) fun v8 A9 =>
  fX11_sit_l49 x1 x3 k169 n v8 (x5 + (1 : Int32)) A9)
def fX11_sit (x1 : Int32) (x2 : Int32) (A : ruA) : Option (Int32 × ruA) :=
  (fX11_is x1 (2 : Int32) A).bind fun v1 =>
  (if v1 = 0 then
  ruB2 (fX11_finding (-1000001 : Int32) A) fun v22 A23 =>
  some (v22, A23)
else
  (ruld (A.1 84) 4920 (0 : Int32)).bind fun v2 =>
  (fX11_hasSheet x1 v2 A).bind fun v3 =>
  (if v3 = 0 then
  ruB2 (fX11_fresh x1 A) fun v4 A5 =>
  fX11_sit_l49 x1 v4
  (fun A17 => (ruld (A17.1 84) 4920 (0 : Int32)).bind fun v18 =>
  (fX11_rights x1 v18 A17).bind fun v19 =>
  some (v19, A17)) ruF x2 (0 : Int32) A5
else
  ruB2 (fX11_finding (-1000005 : Int32) A) fun v20 A21 =>
  some (v20, A21)))
def fX11_isSlip (x0 : Int32) : Option (Int32) :=
  (fX11_within x0 (0 : Int32) (3 : Int32)).bind fun v1 =>
  (rubz v1).bind fun _ => some v1
def fX11_read_l59 {β : Type} (x1 : Int32) (x2 : Int32) (A : ruA) (k84 : Option (β)) (k97 : Option (β)) : Nat → Int32 → Option (β)
  | 0, _ => none
  | n + 1, x3 =>
  (if (12 : Int32) ≤ x3 then
  k97
else
  (ruld (A.1 90) 96 (((24 : Int32) * x2) + x3)).bind fun v7 =>
  (fX11_within v7 (-1 : Int32) (3 : Int32)).bind fun v8 =>
  (if v8 = 0 then
  k84
else
  fX11_read_l59 x1 x2 A k84 k97 n (x3 + (1 : Int32))))
def fX11_read_l127 {β : Type} (x1 : Int32) (x2 : Int32) (x3 : Int32) (k160 : ruA → Option (β)) : Nat → Int32 → ruA → Option (β)
  | 0, _, _ => none
  | n + 1, x4, A =>
  (if (12 : Int32) ≤ x4 then
  k160 A
else
  (ruld (A.1 90) 96 (((24 : Int32) * x2) + x4)).bind fun v15 =>
  (fX11_put x3 x4 (0 : Int32) v15 A).bind fun A16 =>
  fX11_read_l127 x1 x2 x3 k160 n (x4 + (1 : Int32)) A16)
def fX11_read (x1 : Int32) (x2 : Int32) (A : ruA) : Option (Int32 × ruA) :=
  (fX11_is x1 (2 : Int32) A).bind fun v1 =>
  (if v1 = 0 then
  ruB2 (fX11_finding (-1000001 : Int32) A) fun v2 A3 =>
  some (v2, A3)
else
  (fX11_isSlip x2).bind fun v4 =>
  (if v4 = 0 then
  ruB2 (fX11_finding (-1000001 : Int32) A) fun v26 A27 =>
  some (v26, A27)
else
  (ruld (A.1 88) 4 x2).bind fun v5 =>
  (if v5 = 0 then
  ruB2 (fX11_finding (-1000006 : Int32) A) fun v24 A25 =>
  some (v24, A25)
else
  (ruld (A.1 89) 4 x2).bind fun v6 =>
  (if v6 = (12 : Int32) then
  fX11_read_l59 x1 x2 A
  (ruB2 (fX11_finding (-1000001 : Int32) A) fun v9 A10 =>
  some (v9, A10))
  ((ruld (A.1 84) 4920 (0 : Int32)).bind fun v11 =>
  (fX11_hasSheet x1 v11 A).bind fun v12 =>
  (if v12 = 0 then
  ruB2 (fX11_fresh x1 A) fun v13 A14 =>
  fX11_read_l127 x1 x2 v13
  (fun A17 => (ruld (A17.1 84) 4920 (0 : Int32)).bind fun v18 =>
  (fX11_rights x1 v18 A17).bind fun v19 =>
  some (v19, A17)) ruF (0 : Int32) A14
else
  ruB2 (fX11_finding (-1000005 : Int32) A) fun v20 A21 =>
  some (v20, A21))) ruF (0 : Int32)
else
  ruB2 (fX11_finding (-1000007 : Int32) A) fun v22 A23 =>
  some (v22, A23)))))
def fX11_marks (x1 : Int32) (x2 : Int32) (x3 : Int32) (x4 : Int32) (A : ruA) : Option (Int32 × ruA) :=
  (ruld (A.1 84) 4920 (0 : Int32)).bind fun v1 =>
  (fX11_sheetAt x1 v1).bind fun v2 =>
  (ruld (A.1 84) 4920 ((v2 + (1 : Int32)) + x2)).bind fun v3 =>
  (if v3 = x4 then
  some ((0 : Int32), A)
else
  ((if v3 = (-1 : Int32) then
  some A
else
  (ruld (A.1 84) 4920 ((8 : Int32) + x2)).bind fun v5 =>
  ((if x4 = v5 then
  some (0 : Int32)
else
  (if v3 = v5 then
  some (1 : Int32)
else
  some (2 : Int32)))).bind fun v6 =>
  (ruld (A.1 84) 4920 ((v2 + (25 : Int32)) + v6)).bind fun v7 =>
  (rust A 84 4920 ((v2 + (25 : Int32)) + v6) (v7 + (1 : Int32))).bind fun A8 =>
  some A8)).bind fun A4 =>
  (fX11_put v2 x2 x3 x4 A4).bind fun A9 =>
  some ((1 : Int32), A9))
def fX11_mark (x1 : Int32) (x2 : Int32) (x3 : Int32) (x4 : Int32) (A : ruA) : Option (Int32 × ruA) :=
  (fX11_is x1 (2 : Int32) A).bind fun v1 =>
  (if v1 = 0 then
  ruB2 (fX11_finding (-1000001 : Int32) A) fun v2 A3 =>
  some (v2, A3)
else
  (fX11_isQuestion x2).bind fun v4 =>
  (if v4 = 0 then
  ruB2 (fX11_finding (-1000001 : Int32) A) fun v5 A6 =>
  some (v5, A6)
else
  (fX11_within x3 (0 : Int32) (7 : Int32)).bind fun v7 =>
  (if v7 = 0 then
  ruB2 (fX11_finding (-1000001 : Int32) A) fun v8 A9 =>
  some (v8, A9)
else
  (fX11_within x4 (-1 : Int32) (3 : Int32)).bind fun v10 =>
  (if v10 = 0 then
  ruB2 (fX11_finding (-1000001 : Int32) A) fun v17 A18 =>
  some (v17, A18)
else
  (ruld (A.1 84) 4920 (0 : Int32)).bind fun v11 =>
  (fX11_hasSheet x1 v11 A).bind fun v12 =>
  (if v12 = 0 then
  ruB2 (fX11_finding (-1000005 : Int32) A) fun v15 A16 =>
  some (v15, A16)
else
  ruB2 (fX11_marks x1 x2 x3 x4 A) fun v13 A14 =>
  (if v13 = 0 then
  some ((0 : Int32), A14)
else
  some ((1 : Int32), A14)))))))
def fX11_copies_l117 {β : Type} (x1 : Int32) (x2 : Int32) (x3 : Int32) (k171 : Int32 → ruA → Option (β)) : Nat → Int32 → Int32 → ruA → Option (β)
  | 0, _, _, _ => none
  | n + 1, x6, x7, A =>
  (if (12 : Int32) ≤ x7 then
  k171 x6 A
else
  (fX11_choice x2 x3 x7 A).bind fun v13 =>
  ruB2 ((if v13 = (-1 : Int32) then
  some ((0 : Int32), A)
else
  (fX11_choice x2 x3 x7 A).bind fun v16 =>
  ruB2 (fX11_marks x1 x7 (3 : Int32) v16 A) fun v17 A18 =>
  (if v17 = 0 then
  some ((0 : Int32), A18)
else
  some ((1 : Int32), A18)))) fun v14 A15 =>
  fX11_copies_l117 x1 x2 x3 k171 n (x6 + v14) (x7 + (1 : Int32)) A15)
def fX11_copies (x1 : Int32) (x2 : Int32) (A : ruA) : Option (Int32 × ruA) :=
  (fX11_is x1 (2 : Int32) A).bind fun v1 =>
  (if v1 = 0 then
  ruB2 (fX11_finding (-1000001 : Int32) A) fun v2 A3 =>
  some (v2, A3)
else
  (fX11_is x2 (2 : Int32) A).bind fun v4 =>
  (if v4 = 0 then
  ruB2 (fX11_finding (-1000001 : Int32) A) fun v23 A24 =>
  some (v23, A24)
else
  (ruld (A.1 84) 4920 (0 : Int32)).bind fun v5 =>
  (fX11_childOf x1 (1 : Int32) A).bind fun v6 =>
  (fX11_childOf x2 (1 : Int32) A).bind fun v7 =>
  (fX11_hasSheet x1 v5 A).bind fun v8 =>
  ((if v8 = 0 then
  some (0 : Int32)
else
  (fX11_hasSheet x2 v5 A).bind fun v10 =>
  (if v10 = 0 then
  some (0 : Int32)
else
  (fX11_childOf x1 (0 : Int32) A).bind fun v11 =>
  (fX11_childOf x2 (0 : Int32) A).bind fun v12 =>
  (if v11 = v12 then
  (if (v6 - v7) = (1 : Int32) then
  some (1 : Int32)
else
  (if (v6 - v7) = (-1 : Int32) then
  some (1 : Int32)
else
  some (0 : Int32)))
else
  some (0 : Int32))))).bind fun v9 =>
  (if v9 = 0 then
  ruB2 (fX11_finding (-1000005 : Int32) A) fun v21 A22 =>
  some (v21, A22)
else
  fX11_copies_l117 x1 x2 v5
  (fun v19 A20 => some (v19, A20)) ruF (0 : Int32) (0 : Int32) A)))
def fX11_isOf (x1 : Int32) (x2 : Int32) (x3 : Int32) (A : ruA) : Option (Int32) :=
  (fX11_childOf x1 (0 : Int32) A).bind fun v1 =>
  (if v1 = x2 then
  (fX11_hasSheet x1 x3 A).bind fun v2 =>
  (if v2 = 0 then
  some (0 : Int32)
else
  some (1 : Int32))
else
  some (0 : Int32))
def fX11_said_l28 {β : Type} (x1 : Int32) (x2 : Int32) (k89 : Int32 → ruA → Option (β)) : Nat → Int32 → Int32 → ruA → Option (β)
  | 0, _, _, _ => none
  | n + 1, x3, x4, A =>
  (ruld (A.1 84) 4920 (2 : Int32)).bind fun v5 =>
  (if v5 ≤ x4 then
  k89 x3 A
else
  (ruld (A.1 84) 4920 (0 : Int32)).bind fun v6 =>
  (fX11_isOf x4 x1 v6 A).bind fun v7 =>
  ruB2 ((if v7 = 0 then
  some ((0 : Int32), A)
else
  (ruld (A.1 84) 4920 ((8 : Int32) + x2)).bind fun v10 =>
  ruB2 (fX11_marks x4 x2 (4 : Int32) v10 A) fun v11 A12 =>
  (if v11 = 0 then
  some ((0 : Int32), A12)
else
  some ((1 : Int32), A12)))) fun v8 A9 =>
  fX11_said_l28 x1 x2 k89 n (x3 + v8) (x4 + (1 : Int32)) A9)
def fX11_said (x1 : Int32) (x2 : Int32) (A : ruA) : Option (Int32 × ruA) :=
  (fX11_is x1 (1 : Int32) A).bind fun v1 =>
  (if v1 = 0 then
  ruB2 (fX11_finding (-1000001 : Int32) A) fun v2 A3 =>
  some (v2, A3)
else
  (fX11_isQuestion x2).bind fun v4 =>
  (if v4 = 0 then
  ruB2 (fX11_finding (-1000001 : Int32) A) fun v15 A16 =>
  some (v15, A16)
else
  fX11_said_l28 x1 x2
  (fun v13 A14 => some (v13, A14)) ruF (0 : Int32) (0 : Int32) A))
def fX11_puts_l45 {β : Type} (x1 : Int32) (x2 : Int32) (x4 : Int32) (k156 : Int32 → ruA → Option (β)) : Nat → Int32 → Int32 → ruA → Option (β)
  | 0, _, _, _ => none
  | n + 1, x3, x5, A =>
  (if (12 : Int32) ≤ x5 then
  k156 x3 A
else
  (if x2 ≤ x3 then
  k156 x3 A
else
  (ruld (A.1 84) 4920 (0 : Int32)).bind fun v6 =>
  (fX11_isOf x4 x1 v6 A).bind fun v7 =>
  (if v7 = 0 then
  k156 x3 A
else
  (ruld (A.1 84) 4920 (0 : Int32)).bind fun v8 =>
  (fX11_choice x4 v8 x5 A).bind fun v9 =>
  ((if v9 = (-1 : Int32) then
  some (0 : Int32)
else
  (ruld (A.1 84) 4920 (0 : Int32)).bind fun v11 =>
  (fX11_isRight x4 v11 x5 A).bind fun v12 =>
  (if v12 = 0 then
  some (1 : Int32)
else
  some (0 : Int32)))).bind fun v10 =>
  ruB2 ((if v10 = 0 then
  some ((0 : Int32), A)
else
  (ruld (A.1 84) 4920 ((8 : Int32) + x5)).bind fun v15 =>
  ruB2 (fX11_marks x4 x5 (5 : Int32) v15 A) fun v16 A17 =>
  (if v16 = 0 then
  some ((0 : Int32), A17)
else
  some ((1 : Int32), A17)))) fun v13 A14 =>
  fX11_puts_l45 x1 x2 x4 k156 n (x3 + v13) (x5 + (1 : Int32)) A14)))
def fX11_puts_l31 {β : Type} (x1 : Int32) (x2 : Int32) (k162 : Int32 → ruA → Option (β)) : Nat → Int32 → Int32 → ruA → Option (β)
  | 0, _, _, _ => none
  | n + 1, x3, x4, A =>
  (ruld (A.1 84) 4920 (2 : Int32)).bind fun v5 =>
  (if v5 ≤ x4 then
  k162 x3 A
else
  fX11_puts_l45 x1 x2 x4
  (fun v18 A19 => fX11_puts_l31 x1 x2 k162 n v18 (x4 + (1 : Int32)) A19) ruF x3 (0 : Int32) A)
def fX11_puts (x1 : Int32) (x2 : Int32) (A : ruA) : Option (Int32 × ruA) :=
  (fX11_is x1 (1 : Int32) A).bind fun v1 =>
  (if v1 = 0 then
  ruB2 (fX11_finding (-1000001 : Int32) A) fun v2 A3 =>
  some (v2, A3)
else
  (fX11_within x2 (1 : Int32) (99 : Int32)).bind fun v4 =>
  (if v4 = 0 then
  ruB2 (fX11_finding (-1000001 : Int32) A) fun v22 A23 =>
  some (v22, A23)
else
  fX11_puts_l31 x1 x2
  (fun v20 A21 => some (v20, A21)) ruF (0 : Int32) (0 : Int32) A))
def fX11_fills_l33 {β : Type} (x1 : Int32) (x3 : Int32) (k108 : Int32 → ruA → Option (β)) : Nat → Int32 → Int32 → ruA → Option (β)
  | 0, _, _, _ => none
  | n + 1, x2, x4, A =>
  (if (12 : Int32) ≤ x4 then
  k108 x2 A
else
  (ruld (A.1 84) 4920 (0 : Int32)).bind fun v3 =>
  (fX11_isOf x3 x1 v3 A).bind fun v4 =>
  (if v4 = 0 then
  k108 x2 A
else
  (ruld (A.1 84) 4920 (0 : Int32)).bind fun v5 =>
  (fX11_choice x3 v5 x4 A).bind fun v6 =>
  ruB2 ((if v6 = (-1 : Int32) then
  (ruld (A.1 84) 4920 ((8 : Int32) + x4)).bind fun v9 =>
  ruB2 (fX11_marks x3 x4 (6 : Int32) v9 A) fun v10 A11 =>
  (if v10 = 0 then
  some ((0 : Int32), A11)
else
  some ((1 : Int32), A11))
else
  some ((0 : Int32), A))) fun v7 A8 =>
  fX11_fills_l33 x1 x3 k108 n (x2 + v7) (x4 + (1 : Int32)) A8))
def fX11_fills_l20 {β : Type} (x1 : Int32) (k114 : Int32 → ruA → Option (β)) : Nat → Int32 → Int32 → ruA → Option (β)
  | 0, _, _, _ => none
  | n + 1, x2, x3, A =>
  (ruld (A.1 84) 4920 (2 : Int32)).bind fun v2 =>
  (if v2 ≤ x3 then
  k114 x2 A
else
  fX11_fills_l33 x1 x3
  (fun v12 A13 => fX11_fills_l20 x1 k114 n v12 (x3 + (1 : Int32)) A13) ruF x2 (0 : Int32) A)
def fX11_fills (x1 : Int32) (A : ruA) : Option (Int32 × ruA) :=
  (fX11_is x1 (1 : Int32) A).bind fun v1 =>
  (if v1 = 0 then
  ruB2 (fX11_finding (-1000001 : Int32) A) fun v16 A17 =>
  some (v16, A17)
else
  fX11_fills_l20 x1
  (fun v14 A15 => some (v14, A15)) ruF (0 : Int32) (0 : Int32) A)
def fX11_leaves (x1 : Int32) (A : ruA) : Option (Int32 × ruA) :=
  (fX11_is x1 (2 : Int32) A).bind fun v1 =>
  (if v1 = 0 then
  ruB2 (fX11_finding (-1000001 : Int32) A) fun v11 A12 =>
  some (v11, A12)
else
  (ruld (A.1 84) 4920 (0 : Int32)).bind fun v2 =>
  (fX11_hasSheet x1 v2 A).bind fun v3 =>
  (if v3 = 0 then
  ruB2 (fX11_finding (-1000004 : Int32) A) fun v9 A10 =>
  some (v9, A10)
else
  (ruld (A.1 84) 4920 (0 : Int32)).bind fun v4 =>
  (fX11_rights x1 v4 A).bind fun v5 =>
  (ruld (A.1 84) 4920 (0 : Int32)).bind fun v6 =>
  (fX11_sheetAt x1 v6).bind fun v7 =>
  (rust A 84 4920 v7 (0 : Int32)).bind fun A8 =>
  some (v5, A8)))
def fX11_isYear (x0 : Int32) : Option (Int32) :=
  (fX11_within x0 (0 : Int32) (5 : Int32)).bind fun v1 =>
  (rubz v1).bind fun _ => some v1
def fX11_kind (x1 : Int32) (x2 : Int32) (x3 : Int32) (A : ruA) : Option (Int32) :=
  (fX11_sheetAt x1 x2).bind fun v1 =>
  (ruld (A.1 84) 4920 ((v1 + (13 : Int32)) + x3)).bind fun v2 =>
  some v2
def fX11_bubble (x1 : Int32) (x2 : Int32) (x3 : Int32) (x4 : Int32) (A : ruA) : Option (Int32 × ruA) :=
  (fX11_is x1 (2 : Int32) A).bind fun v1 =>
  (if v1 = 0 then
  ruB2 (fX11_finding (-1000001 : Int32) A) fun v2 A3 =>
  some (v2, A3)
else
  (fX11_isYear x2).bind fun v4 =>
  (if v4 = 0 then
  ruB2 (fX11_finding (-1000001 : Int32) A) fun v5 A6 =>
  some (v5, A6)
else
  (fX11_isQuestion x3).bind fun v7 =>
  (if v7 = 0 then
  ruB2 (fX11_finding (-1000001 : Int32) A) fun v8 A9 =>
  some (v8, A9)
else
  (fX11_within x4 (0 : Int32) (2 : Int32)).bind fun v10 =>
  (if v10 = 0 then
  ruB2 (fX11_finding (-1000001 : Int32) A) fun v17 A18 =>
  some (v17, A18)
else
  (fX11_hasSheet x1 x2 A).bind fun v11 =>
  (if v11 = 0 then
  ruB2 (fX11_finding (-1000004 : Int32) A) fun v15 A16 =>
  some (v15, A16)
else
  (if x4 = 0 then
  (fX11_choice x1 x2 x3 A).bind fun v14 =>
  some (v14, A)
else
  (if x4 = (1 : Int32) then
  (fX11_kind x1 x2 x3 A).bind fun v13 =>
  some (v13, A)
else
  (fX11_isRight x1 x2 x3 A).bind fun v12 =>
  (if v12 = 0 then
  some ((0 : Int32), A)
else
  some ((1 : Int32), A)))))))))
def fX11_unfit_l15 {β : Type} (x1 : Int32) (x2 : Int32) (x4 : Int32) (A : ruA) (k81 : Int32 → Option (β)) : Nat → Int32 → Int32 → Option (β)
  | 0, _, _ => none
  | n + 1, x3, x5 =>
  (if (12 : Int32) ≤ x5 then
  k81 x3
else
  (fX11_isRight x1 x2 x4 A).bind fun v1 =>
  ((if v1 = 0 then
  some (0 : Int32)
else
  (fX11_isRight x1 x2 x5 A).bind fun v3 =>
  (if v3 = 0 then
  (ruld (A.1 84) 4920 ((20 : Int32) + x4)).bind fun v4 =>
  (ruld (A.1 84) 4920 ((20 : Int32) + x5)).bind fun v5 =>
  (if v4 ≤ v5 then
  some (0 : Int32)
else
  some (1 : Int32))
else
  some (0 : Int32)))).bind fun v2 =>
  fX11_unfit_l15 x1 x2 x4 A k81 n (x3 + v2) (x5 + (1 : Int32)))
def fX11_unfit_l5 {β : Type} (x1 : Int32) (x2 : Int32) (A : ruA) (k87 : Int32 → Option (β)) : Nat → Int32 → Int32 → Option (β)
  | 0, _, _ => none
  | n + 1, x3, x4 =>
  (if (12 : Int32) ≤ x4 then
  k87 x3
else
  fX11_unfit_l15 x1 x2 x4 A
  (fun v6 => fX11_unfit_l5 x1 x2 A k87 n v6 (x4 + (1 : Int32))) ruF x3 (0 : Int32))
def fX11_unfit (x1 : Int32) (x2 : Int32) (A : ruA) : Option (Int32) :=
  fX11_unfit_l5 x1 x2 A
  (fun v7 => some v7) ruF (0 : Int32) (0 : Int32)
def fX11_above (x0 : Int32) : Option (Int32) :=
  (if x0 = (2 : Int32) then
  some (1 : Int32)
else
  (if x0 = (7 : Int32) then
  some (1 : Int32)
else
  (if x0 = (6 : Int32) then
  some (5 : Int32)
else
  (if x0 = 0 then
  some (-1 : Int32)
else
  some (0 : Int32)))))
def fX11_isUnder_l2 {β : Type} (x1 : Int32) (k19 : Int32 → Option (β)) : Nat → Int32 → Option (β)
  | 0, _ => none
  | n + 1, x2 =>
  (if x2 < 0 then
  k19 x2
else
  (if x2 = x1 then
  k19 x2
else
  (fX11_above x2).bind fun v1 =>
  fX11_isUnder_l2 x1 k19 n v1))
def fX11_isUnder (x0 : Int32) (x1 : Int32) : Option (Int32) :=
  fX11_isUnder_l2 x1
  (fun v2 => (if v2 < 0 then
  some (0 : Int32)
else
  some (1 : Int32))) ruF x0
def fX11_putsOn_l5 {β : Type} (x1 : Int32) (x2 : Int32) (A : ruA) (k53 : Int32 → Option (β)) : Nat → Int32 → Int32 → Option (β)
  | 0, _, _ => none
  | n + 1, x3, x4 =>
  (if (12 : Int32) ≤ x4 then
  k53 x3
else
  (fX11_choice x1 x2 x4 A).bind fun v1 =>
  ((if v1 = (-1 : Int32) then
  some (0 : Int32)
else
  (fX11_kind x1 x2 x4 A).bind fun v3 =>
  (fX11_isUnder v3 (5 : Int32)).bind fun v4 =>
  (if v4 = 0 then
  some (0 : Int32)
else
  some (1 : Int32)))).bind fun v2 =>
  fX11_putsOn_l5 x1 x2 A k53 n (x3 + v2) (x4 + (1 : Int32)))
def fX11_putsOn (x1 : Int32) (x2 : Int32) (A : ruA) : Option (Int32) :=
  fX11_putsOn_l5 x1 x2 A
  (fun v5 => some v5) ruF (0 : Int32) (0 : Int32)
def fX11_sheetIs_l105 {β : Type} (x1 : Int32) (x2 : Int32) (A : ruA) (k140 : Int32 → Option (β)) : Nat → Int32 → Int32 → Option (β)
  | 0, _, _ => none
  | n + 1, x4, x5 =>
  (if (12 : Int32) ≤ x5 then
  k140 x4
else
  (fX11_choice x1 x2 x5 A).bind fun v10 =>
  ((if v10 = (-1 : Int32) then
  some (1 : Int32)
else
  some (0 : Int32))).bind fun v11 =>
  fX11_sheetIs_l105 x1 x2 A k140 n (x4 + v11) (x5 + (1 : Int32)))
def fX11_sheetIs (x1 : Int32) (x2 : Int32) (x3 : Int32) (A : ruA) : Option (Int32 × ruA) :=
  (fX11_is x1 (2 : Int32) A).bind fun v1 =>
  (if v1 = 0 then
  ruB2 (fX11_finding (-1000001 : Int32) A) fun v2 A3 =>
  some (v2, A3)
else
  (fX11_isYear x2).bind fun v4 =>
  (if v4 = 0 then
  ruB2 (fX11_finding (-1000001 : Int32) A) fun v5 A6 =>
  some (v5, A6)
else
  (fX11_within x3 (0 : Int32) (6 : Int32)).bind fun v7 =>
  (if v7 = 0 then
  ruB2 (fX11_finding (-1000001 : Int32) A) fun v25 A26 =>
  some (v25, A26)
else
  (fX11_hasSheet x1 x2 A).bind fun v8 =>
  (if v8 = 0 then
  ruB2 (fX11_finding (-1000004 : Int32) A) fun v23 A24 =>
  some (v23, A24)
else
  (if x3 = (0 : Int32) then
  (fX11_rights x1 x2 A).bind fun v9 =>
  some (v9, A)
else
  (if x3 = (1 : Int32) then
  fX11_sheetIs_l105 x1 x2 A
  (fun v12 => some (v12, A)) ruF (0 : Int32) (0 : Int32)
else
  (if x3 = (2 : Int32) then
  (fX11_sheetAt x1 x2).bind fun v13 =>
  (ruld (A.1 84) 4920 (((v13 + (25 : Int32)) + x3) - (2 : Int32))).bind fun v14 =>
  some (v14, A)
else
  (if x3 = (3 : Int32) then
  (fX11_sheetAt x1 x2).bind fun v15 =>
  (ruld (A.1 84) 4920 (((v15 + (25 : Int32)) + x3) - (2 : Int32))).bind fun v16 =>
  some (v16, A)
else
  (if x3 = (4 : Int32) then
  (fX11_sheetAt x1 x2).bind fun v17 =>
  (ruld (A.1 84) 4920 (((v17 + (25 : Int32)) + x3) - (2 : Int32))).bind fun v18 =>
  some (v18, A)
else
  (if x3 = (5 : Int32) then
  (fX11_unfit x1 x2 A).bind fun v19 =>
  some (v19, A)
else
  (if x3 = (6 : Int32) then
  (fX11_putsOn x1 x2 A).bind fun v20 =>
  some (v20, A)
else
  (fX11_sheetAt x1 x2).bind fun v21 =>
  (ruld (A.1 84) 4920 (((v21 + (25 : Int32)) + x3) - (2 : Int32))).bind fun v22 =>
  some (v22, A))))))))))))
def fX11_weightOf (gX11_weightOf : Int32 → Int32 → Option (Int32)) (x0 : Int32) (x1 : Int32) : Option (Int32) :=
  (if x0 = (0 : Int32) then
  some x1
else
  (if x0 = (1 : Int32) then
  some (x1 + (2 : Int32))
else
  (if x0 = (2 : Int32) then
  (gX11_weightOf (1 : Int32) x1).bind fun v1 =>
  some ((3 : Int32) * v1)
else
  (if x0 = (3 : Int32) then
  some (x1 / (2 : Int32))
else
  (if x0 = (4 : Int32) then
  some (x1 - (1 : Int32))
else
  (if x0 = (5 : Int32) then
  some (-x1)
else
  (if x0 = (6 : Int32) then
  (gX11_weightOf (5 : Int32) x1).bind fun v2 =>
  some (v2 - x1)
else
  (gX11_weightOf (1 : Int32) (x1 - (1 : Int32))).bind fun v3 =>
  some v3)))))))
def fX11_weightOfT (x0 x1 : Int32) : Option Int32 := fX11_weightOf (fX11_weightOf (fun _ _ => none)) x0 x1
def fX11_weight (x1 : Int32) (x2 : Int32) (A : ruA) : Option (Int32 × ruA) :=
  (fX11_within x1 (0 : Int32) (7 : Int32)).bind fun v1 =>
  (if v1 = 0 then
  ruB2 (fX11_finding (-1000001 : Int32) A) fun v2 A3 =>
  some (v2, A3)
else
  (fX11_weightOfT x1 x2).bind fun v4 =>
  some (v4, A))
def fX11_as (x1 : Int32) (x2 : Int32) (x3 : Int32) (x4 : Int32) (A : ruA) : Option (Int32 × ruA) :=
  (fX11_is x1 (2 : Int32) A).bind fun v1 =>
  (if v1 = 0 then
  ruB2 (fX11_finding (-1000001 : Int32) A) fun v2 A3 =>
  some (v2, A3)
else
  (fX11_isYear x2).bind fun v4 =>
  (if v4 = 0 then
  ruB2 (fX11_finding (-1000001 : Int32) A) fun v5 A6 =>
  some (v5, A6)
else
  (fX11_isQuestion x3).bind fun v7 =>
  (if v7 = 0 then
  ruB2 (fX11_finding (-1000001 : Int32) A) fun v8 A9 =>
  some (v8, A9)
else
  (fX11_within x4 (0 : Int32) (7 : Int32)).bind fun v10 =>
  (if v10 = 0 then
  ruB2 (fX11_finding (-1000001 : Int32) A) fun v19 A20 =>
  some (v19, A20)
else
  (fX11_hasSheet x1 x2 A).bind fun v11 =>
  (if v11 = 0 then
  ruB2 (fX11_finding (-1000004 : Int32) A) fun v17 A18 =>
  some (v17, A18)
else
  (fX11_kind x1 x2 x3 A).bind fun v12 =>
  (fX11_isUnder v12 x4).bind fun v13 =>
  (if v13 = 0 then
  ruB2 (fX11_finding (-1000003 : Int32) A) fun v14 A15 =>
  some (v14, A15)
else
  (fX11_choice x1 x2 x3 A).bind fun v16 =>
  some (v16, A)))))))
def fX11_sheetsOf_l5 {β : Type} (x1 : Int32) (x2 : Int32) (A : ruA) (k41 : Int32 → Option (β)) : Nat → Int32 → Int32 → Option (β)
  | 0, _, _ => none
  | n + 1, x3, x4 =>
  (ruld (A.1 84) 4920 (2 : Int32)).bind fun v1 =>
  (if v1 ≤ x4 then
  k41 x3
else
  (fX11_isOf x4 x1 x2 A).bind fun v2 =>
  ((if v2 = 0 then
  some (0 : Int32)
else
  some (1 : Int32))).bind fun v3 =>
  fX11_sheetsOf_l5 x1 x2 A k41 n (x3 + v3) (x4 + (1 : Int32)))
def fX11_sheetsOf (x1 : Int32) (x2 : Int32) (A : ruA) : Option (Int32) :=
  fX11_sheetsOf_l5 x1 x2 A
  (fun v4 => some v4) ruF (0 : Int32) (0 : Int32)
def fX11_hasBlank_l6 {β : Type} (x1 : Int32) (x2 : Int32) (x3 : Int32) (x4 : Int32) (A : ruA) (k45 : Int32 → Option (β)) : Nat → Int32 → Int32 → Option (β)
  | 0, _, _ => none
  | n + 1, x5, x6 =>
  (if (x3 + x4) ≤ x6 then
  k45 x5
else
  ((if x5 = 0 then
  (fX11_choice x1 x2 x6 A).bind fun v2 =>
  (if v2 = (-1 : Int32) then
  some (1 : Int32)
else
  some (0 : Int32))
else
  some (1 : Int32))).bind fun v1 =>
  fX11_hasBlank_l6 x1 x2 x3 x4 A k45 n v1 (x6 + (1 : Int32)))
def fX11_hasBlank (x1 : Int32) (x2 : Int32) (x3 : Int32) (x4 : Int32) (A : ruA) : Option (Int32) :=
  fX11_hasBlank_l6 x1 x2 x3 x4 A
  (fun v3 => (rubz v3).bind fun _ => some v3) ruF (0 : Int32) x3
def fX11_likes_l35 {β : Type} (x1 : Int32) (x2 : Int32) (x3 : Int32) (x4 : Int32) (x5 : Int32) (x6 : Int32) (A : ruA) (k82 : Int32 → Option (β)) : Nat → Int32 → Int32 → Option (β)
  | 0, _, _ => none
  | n + 1, x7, x8 =>
  (if (x3 + x4) ≤ x8 then
  k82 x7
else
  (if x7 = 0 then
  k82 x7
else
  (fX11_choice x6 x2 x8 A).bind fun v4 =>
  (fX11_choice x1 x2 x8 A).bind fun v5 =>
  ((if v4 = v5 then
  some (1 : Int32)
else
  some (0 : Int32))).bind fun v6 =>
  fX11_likes_l35 x1 x2 x3 x4 x5 x6 A k82 n v6 (x8 + (1 : Int32))))
def fX11_likes_l6 {β : Type} (x1 : Int32) (x2 : Int32) (x3 : Int32) (x4 : Int32) (A : ruA) (k106 : Int32 → Option (β)) : Nat → Int32 → Int32 → Option (β)
  | 0, _, _ => none
  | n + 1, x5, x6 =>
  (ruld (A.1 84) 4920 (2 : Int32)).bind fun v1 =>
  (if v1 ≤ x6 then
  k106 x5
else
  (fX11_childOf x1 (0 : Int32) A).bind fun v2 =>
  (fX11_isOf x6 v2 x2 A).bind fun v3 =>
  fX11_likes_l35 x1 x2 x3 x4 x5 x6 A
  (fun v7 => ((if v7 = 0 then
  some (0 : Int32)
else
  some ((1 : Int32) <<< (x6 &&& 31)))).bind fun v8 =>
  fX11_likes_l6 x1 x2 x3 x4 A k106 n (x5 ||| v8) (x6 + (1 : Int32))) ruF v3 x3)
def fX11_likes (x1 : Int32) (x2 : Int32) (x3 : Int32) (x4 : Int32) (A : ruA) : Option (Int32) :=
  fX11_likes_l6 x1 x2 x3 x4 A
  (fun v9 => some v9) ruF (0 : Int32) (0 : Int32)
def fX11_bits_l4 {β : Type} (x0 : Int32) (k24 : Int32 → Option (β)) : Nat → Int32 → Int32 → Option (β)
  | 0, _, _ => none
  | n + 1, x1, x2 =>
  (if (24 : Int32) ≤ x2 then
  k24 x1
else
  fX11_bits_l4 x0 k24 n (x1 + ((x0 >>> (x2 &&& 31)) &&& (1 : Int32))) (x2 + (1 : Int32)))
def fX11_bits (x0 : Int32) : Option (Int32) :=
  fX11_bits_l4 x0
  (fun v1 => some v1) ruF (0 : Int32) (0 : Int32)
def fX11_findString_l47 {β : Type} (x1 : Int32) (x2 : Int32) (x3 : Int32) (x4 : Int32) (x5 : Int32) (k196 : ruA → Option (β)) : Nat → Int32 → ruA → Option (β)
  | 0, _, _ => none
  | n + 1, x6, A =>
  (ruld (A.1 84) 4920 (2 : Int32)).bind fun v4 =>
  (if v4 ≤ x6 then
  k196 A
else
  (fX11_isOf x6 x1 x2 A).bind fun v5 =>
  ((if v5 = 0 then
  some A
else
  (fX11_hasBlank x6 x2 x5 x4 A).bind fun v7 =>
  (if v7 = 0 then
  (fX11_likes x6 x2 x5 x4 A).bind fun v8 =>
  (fX11_bits v8).bind fun v9 =>
  ((if v9 < x3 then
  some (0 : Int32)
else
  (if (A.1 83 10) = 0 then
  some (1 : Int32)
else
  (fX11_bits v8).bind fun v11 =>
  (fX11_bits (A.1 83 12)).bind fun v12 =>
  (if v12 < v11 then
  some (1 : Int32)
else
  (fX11_bits v8).bind fun v13 =>
  (fX11_bits (A.1 83 12)).bind fun v14 =>
  (if v13 = v14 then
  (if x5 = (A.1 83 11) then
  (if (A.1 83 12) ≤ v8 then
  some (0 : Int32)
else
  some (1 : Int32))
else
  some (0 : Int32))
else
  some (0 : Int32)))))).bind fun v10 =>
  (if v10 = 0 then
  some A
else
  (some (ruset A 83 10 x4)).bind fun A15 =>
  (some (ruset A15 83 11 x5)).bind fun A16 =>
  (some (ruset A16 83 12 v8)).bind fun A17 =>
  some A17)
else
  some A))).bind fun A6 =>
  fX11_findString_l47 x1 x2 x3 x4 x5 k196 n (x6 + (1 : Int32)) A6)
def fX11_findString_l34 {β : Type} (x1 : Int32) (x2 : Int32) (x3 : Int32) (x4 : Int32) (k202 : ruA → Option (β)) : Nat → Int32 → ruA → Option (β)
  | 0, _, _ => none
  | n + 1, x5, A =>
  (if (12 : Int32) < (x5 + x4) then
  k202 A
else
  fX11_findString_l47 x1 x2 x3 x4 x5
  (fun A18 => fX11_findString_l34 x1 x2 x3 x4 k202 n (x5 + (1 : Int32)) A18) ruF (0 : Int32) A)
def fX11_findString_l19 {β : Type} (x1 : Int32) (x2 : Int32) (x3 : Int32) (k208 : ruA → Option (β)) : Nat → Int32 → ruA → Option (β)
  | 0, _, _ => none
  | n + 1, x4, A =>
  (if x4 ≤ 0 then
  k208 A
else
  (if (A.1 83 10) = 0 then
  fX11_findString_l34 x1 x2 x3 x4
  (fun A19 => fX11_findString_l19 x1 x2 x3 k208 n (x4 + (-1 : Int32)) A19) ruF (0 : Int32) A
else
  k208 A))
def fX11_findString (x1 : Int32) (x2 : Int32) (x3 : Int32) (A : ruA) : Option (ruA) :=
  (some (ruset A 83 10 (0 : Int32))).bind fun A1 =>
  (some (ruset A1 83 11 (-1 : Int32))).bind fun A2 =>
  (some (ruset A2 83 12 (0 : Int32))).bind fun A3 =>
  fX11_findString_l19 x1 x2 x3
  (fun A20 => some A20) ruF (12 : Int32) A3
def fX11_measured_l23 {β : Type} (x1 : Int32) (x2 : Int32) (x3 : Int32) (A : ruA) (k193 : Int32 → Option (β)) : Nat → Int32 → Int32 → Option (β)
  | 0, _, _ => none
  | n + 1, x4, x5 =>
  (ruld (A.1 84) 4920 (2 : Int32)).bind fun v1 =>
  (if v1 ≤ x5 then
  k193 x4
else
  (fX11_isOf x5 x1 x2 A).bind fun v2 =>
  ((if v2 = 0 then
  some x4
else
  (if x3 = (0 : Int32) then
  (fX11_sheetAt x5 x2).bind fun v4 =>
  (ruld (A.1 84) 4920 ((v4 + (25 : Int32)) + x3)).bind fun v5 =>
  some (x4 + v5)
else
  (if x3 = (1 : Int32) then
  (fX11_sheetAt x5 x2).bind fun v6 =>
  (ruld (A.1 84) 4920 ((v6 + (25 : Int32)) + x3)).bind fun v7 =>
  some (x4 + v7)
else
  (if x3 = (2 : Int32) then
  (fX11_putsOn x5 x2 A).bind fun v8 =>
  some (x4 + v8)
else
  (if x3 = (3 : Int32) then
  (fX11_unfit x5 x2 A).bind fun v9 =>
  some (x4 + v9)
else
  (if x3 = (4 : Int32) then
  ((if (5 : Int32) ≤ x2 then
  some (0 : Int32)
else
  (fX11_hasSheet x5 (x2 + (1 : Int32)) A).bind fun v11 =>
  (if v11 = 0 then
  some (0 : Int32)
else
  (fX11_rights x5 x2 A).bind fun v12 =>
  (fX11_rights x5 (x2 + (1 : Int32)) A).bind fun v13 =>
  some (v12 - v13)))).bind fun v10 =>
  some (x4 + v10)
else
  (if x3 = (5 : Int32) then
  some (x4 + (1 : Int32))
else
  (fX11_putsOn x5 x2 A).bind fun v14 =>
  some (x4 + v14))))))))).bind fun v3 =>
  fX11_measured_l23 x1 x2 x3 A k193 n v3 (x5 + (1 : Int32)))
def fX11_measured (x1 : Int32) (x2 : Int32) (x3 : Int32) (A : ruA) : Option (Int32 × ruA) :=
  (if x3 = (2 : Int32) then
  (fX11_findString x1 x2 (3 : Int32) A).bind fun A16 =>
  some ((A16.1 83 10), A16)
else
  fX11_measured_l23 x1 x2 x3 A
  (fun v15 => some (v15, A)) ruF (0 : Int32) (0 : Int32))
def fX11_measure (x1 : Int32) (x2 : Int32) (x3 : Int32) (A : ruA) : Option (Int32 × ruA) :=
  (fX11_is x1 (1 : Int32) A).bind fun v1 =>
  (if v1 = 0 then
  ruB2 (fX11_finding (-1000001 : Int32) A) fun v2 A3 =>
  some (v2, A3)
else
  (fX11_isYear x2).bind fun v4 =>
  (if v4 = 0 then
  ruB2 (fX11_finding (-1000001 : Int32) A) fun v5 A6 =>
  some (v5, A6)
else
  (fX11_within x3 (0 : Int32) (6 : Int32)).bind fun v7 =>
  (if v7 = 0 then
  ruB2 (fX11_finding (-1000001 : Int32) A) fun v14 A15 =>
  some (v14, A15)
else
  (fX11_sheetsOf x1 x2 A).bind fun v8 =>
  (if v8 = 0 then
  ruB2 (fX11_finding (-1000004 : Int32) A) fun v12 A13 =>
  some (v12, A13)
else
  (some (ruset A 83 3 ((A.1 83 3) + (1 : Int32)))).bind fun A9 =>
  ruB2 (fX11_measured x1 x2 x3 A9) fun v10 A11 =>
  some (v10, A11)))))
def fX11_looked (A : ruA) : Option (Int32) :=
  some (A.1 83 3)
def fX11_string (x1 : Int32) (x2 : Int32) (x3 : Int32) (x4 : Int32) (A : ruA) : Option (Int32 × ruA) :=
  (fX11_is x1 (1 : Int32) A).bind fun v1 =>
  (if v1 = 0 then
  ruB2 (fX11_finding (-1000001 : Int32) A) fun v2 A3 =>
  some (v2, A3)
else
  (fX11_isYear x2).bind fun v4 =>
  (if v4 = 0 then
  ruB2 (fX11_finding (-1000001 : Int32) A) fun v5 A6 =>
  some (v5, A6)
else
  (fX11_within x3 (2 : Int32) (9 : Int32)).bind fun v7 =>
  (if v7 = 0 then
  ruB2 (fX11_finding (-1000001 : Int32) A) fun v8 A9 =>
  some (v8, A9)
else
  (fX11_within x4 (0 : Int32) (2 : Int32)).bind fun v10 =>
  (if v10 = 0 then
  ruB2 (fX11_finding (-1000001 : Int32) A) fun v12 A13 =>
  some (v12, A13)
else
  (fX11_findString x1 x2 x3 A).bind fun A11 =>
  (if x4 = 0 then
  some ((A11.1 83 10), A11)
else
  (if x4 = (1 : Int32) then
  some ((A11.1 83 11), A11)
else
  some ((A11.1 83 12), A11)))))))
def fX11_odd_l77 {β : Type} (x2 : Int32) (x3 : Int32) (x4 : Int32) (x5 : Int32) (k130 : Int32 → Int32 → ruA → Option (β)) : Nat → Int32 → Int32 → Int32 → ruA → Option (β)
  | 0, _, _, _, _ => none
  | n + 1, x6, x7, x8, A =>
  (ruld (A.1 84) 4920 (1 : Int32)).bind fun v14 =>
  (if v14 ≤ x8 then
  k130 x6 x7 A
else
  (fX11_sheetsOf x8 x2 A).bind fun v15 =>
  ruB3 ((if v15 ≤ 0 then
  some (x6, x7, A)
else
  ruB2 (fX11_measured x8 x2 x3 A) fun v19 A20 =>
  ((if v19 < x5 then
  some (0 : Int32)
else
  some (1 : Int32))).bind fun v21 =>
  some ((x6 + v21), (x7 + (1 : Int32)), A20))) fun v16 v17 A18 =>
  fX11_odd_l77 x2 x3 x4 x5 k130 n v16 v17 (x8 + (1 : Int32)) A18)
def fX11_odd (x1 : Int32) (x2 : Int32) (x3 : Int32) (x4 : Int32) (A : ruA) : Option (Int32 × ruA) :=
  (fX11_is x1 (1 : Int32) A).bind fun v1 =>
  (if v1 = 0 then
  ruB2 (fX11_finding (-1000001 : Int32) A) fun v2 A3 =>
  some (v2, A3)
else
  (fX11_isYear x2).bind fun v4 =>
  (if v4 = 0 then
  ruB2 (fX11_finding (-1000001 : Int32) A) fun v5 A6 =>
  some (v5, A6)
else
  (fX11_within x3 (0 : Int32) (6 : Int32)).bind fun v7 =>
  (if v7 = 0 then
  ruB2 (fX11_finding (-1000001 : Int32) A) fun v8 A9 =>
  some (v8, A9)
else
  (fX11_within x4 (0 : Int32) (1 : Int32)).bind fun v10 =>
  (if v10 = 0 then
  ruB2 (fX11_finding (-1000001 : Int32) A) fun v27 A28 =>
  some (v27, A28)
else
  (fX11_sheetsOf x1 x2 A).bind fun v11 =>
  (if v11 = 0 then
  ruB2 (fX11_finding (-1000004 : Int32) A) fun v25 A26 =>
  some (v25, A26)
else
  ruB2 (fX11_measured x1 x2 x3 A) fun v12 A13 =>
  fX11_odd_l77 x2 x3 x4 v12
  (fun v22 v23 A24 => (if x4 = 0 then
  some (v22, A24)
else
  some (v23, A24))) ruF (0 : Int32) (0 : Int32) (0 : Int32) A13)))))
def fX11_feed_l38 {β : Type} (x1 : Int32) (k77 : ruA → Option (β)) : Nat → Int32 → ruA → Option (β)
  | 0, _, _ => none
  | n + 1, x3, A =>
  (if x3 < 0 then
  k77 A
else
  (rust A 87 100 (A.1 83 6) ((x1 >>> (((8 : Int32) * x3) &&& 31)) &&& (255 : Int32))).bind fun A2 =>
  (some (ruset A2 83 6 ((A2.1 83 6) + (1 : Int32)))).bind fun A3 =>
  fX11_feed_l38 x1 k77 n (x3 + (-1 : Int32)) A3)
def fX11_feed (x1 : Int32) (x2 : Int32) (A : ruA) : Option (Int32 × ruA) :=
  (fX11_within x2 (1 : Int32) (4 : Int32)).bind fun v1 =>
  (if v1 = 0 then
  ruB2 (fX11_finding (-1000001 : Int32) A) fun v7 A8 =>
  some (v7, A8)
else
  (if ((A.1 83 6) + x2) ≤ (100 : Int32) then
  fX11_feed_l38 x1
  (fun A4 => some ((A4.1 83 6), A4)) ruF (x2 - (1 : Int32)) A
else
  ruB2 (fX11_finding (-1000002 : Int32) A) fun v5 A6 =>
  some (v5, A6)))
def fX11_wipe (A : ruA) : Option (Int32 × ruA) :=
  (some (ruset A 83 6 (0 : Int32))).bind fun A1 =>
  some ((A.1 83 6), A1)
def fX11_isByte (x1 : Int32) (x2 : Int32) (x3 : Int32) (A : ruA) : Option (Int32) :=
  (if (A.1 83 6) ≤ x1 then
  some (0 : Int32)
else
  (ruld (A.1 87) 100 x1).bind fun v1 =>
  (fX11_within v1 x2 x3).bind fun v2 =>
  (if v2 = 0 then
  some (0 : Int32)
else
  some (1 : Int32)))
def fX11_next_l8 {β : Type} (k46 : ruA → Option (β)) : Nat → ruA → Option (β)
  | 0, _ => none
  | n + 1, A =>
  (if (A.1 83 6) ≤ (A.1 83 15) then
  k46 A
else
  (ruld (A.1 87) 100 (A.1 83 15)).bind fun v2 =>
  (if v2 = (32 : Int32) then
  (some (ruset A 83 15 ((A.1 83 15) + (1 : Int32)))).bind fun A3 =>
  fX11_next_l8 k46 n A3
else
  k46 A))
def fX11_next_l124 {β : Type} (k183 : ruA → Option (β)) : Nat → ruA → Option (β)
  | 0, _ => none
  | n + 1, A =>
  (if (A.1 83 14) = (1 : Int32) then
  (fX11_isByte (A.1 83 16) (97 : Int32) (122 : Int32) A).bind fun v13 =>
  (if v13 = 0 then
  (if (A.1 83 14) = (2 : Int32) then
  (fX11_isByte (A.1 83 16) (48 : Int32) (57 : Int32) A).bind fun v15 =>
  (if v15 = 0 then
  k183 A
else
  (some (ruset A 83 16 ((A.1 83 16) + (1 : Int32)))).bind fun A16 =>
  fX11_next_l124 k183 n A16)
else
  k183 A)
else
  (some (ruset A 83 16 ((A.1 83 16) + (1 : Int32)))).bind fun A14 =>
  fX11_next_l124 k183 n A14)
else
  (if (A.1 83 14) = (2 : Int32) then
  (fX11_isByte (A.1 83 16) (48 : Int32) (57 : Int32) A).bind fun v11 =>
  (if v11 = 0 then
  k183 A
else
  (some (ruset A 83 16 ((A.1 83 16) + (1 : Int32)))).bind fun A12 =>
  fX11_next_l124 k183 n A12)
else
  k183 A))
def fX11_next (A : ruA) : Option (ruA) :=
  (some (ruset A 83 15 (A.1 83 16))).bind fun A1 =>
  fX11_next_l8
  (fun A4 => (some (ruset A4 83 16 (A4.1 83 15))).bind fun A5 =>
  (if (A5.1 83 15) = (A5.1 83 6) then
  (some (ruset A5 83 14 (0 : Int32))).bind fun A18 =>
  some A18
else
  (fX11_isByte (A5.1 83 15) (97 : Int32) (122 : Int32) A5).bind fun v6 =>
  ((if v6 = 0 then
  (fX11_isByte (A5.1 83 15) (48 : Int32) (57 : Int32) A5).bind fun v8 =>
  (if v8 = 0 then
  some (3 : Int32)
else
  some (2 : Int32))
else
  some (1 : Int32))).bind fun v7 =>
  (some (ruset A5 83 14 v7)).bind fun A9 =>
  (some (ruset A9 83 16 ((A9.1 83 16) + (1 : Int32)))).bind fun A10 =>
  fX11_next_l124
  (fun A17 => some A17) ruF A10)) ruF A1
def fX11_isWord_l39 {β : Type} (x1 : Nat) (A : ruA) (k82 : Int32 → Option (β)) : Nat → Int32 → Int32 → Option (β)
  | 0, _, _ => none
  | n + 1, x2, x3 =>
  (if x2 = 0 then
  k82 x2
else
  (rusl x1).bind fun v3 =>
  (if v3 ≤ x3 then
  k82 x2
else
  (ruld (A.1 87) 100 ((A.1 83 15) + x3)).bind fun v4 =>
  (rusc x1 x3).bind fun v5 =>
  ((if v4 = v5 then
  some (1 : Int32)
else
  some (0 : Int32))).bind fun v6 =>
  fX11_isWord_l39 x1 A k82 n v6 (x3 + (1 : Int32))))
def fX11_isWord (x1 : Nat) (A : ruA) : Option (Int32) :=
  ((if (A.1 83 17) = 0 then
  (if (A.1 83 14) = (1 : Int32) then
  (rusl x1).bind fun v2 =>
  (if ((A.1 83 16) - (A.1 83 15)) = v2 then
  some (1 : Int32)
else
  some (0 : Int32))
else
  some (0 : Int32))
else
  some (0 : Int32))).bind fun v1 =>
  fX11_isWord_l39 x1 A
  (fun v7 => (rubz v7).bind fun _ => some v7) ruF v1 (0 : Int32)
def fX11_isSign (x1 : Int32) (A : ruA) : Option (Int32) :=
  (if (A.1 83 17) = 0 then
  (if (A.1 83 14) = (3 : Int32) then
  (ruld (A.1 87) 100 (A.1 83 15)).bind fun v1 =>
  (if v1 = x1 then
  some (1 : Int32)
else
  some (0 : Int32))
else
  some (0 : Int32))
else
  some (0 : Int32))
def fX11_need (x1 : Int32) (A : ruA) : Option (ruA) :=
  ((if (A.1 83 17) = 0 then
  (if x1 = 0 then
  some (1 : Int32)
else
  some (0 : Int32))
else
  some (1 : Int32))).bind fun v1 =>
  (rubz v1).bind fun _ =>
  (some (ruset A 83 17 v1)).bind fun A2 =>
  (if (A2.1 83 17) = 0 then
  (fX11_next A2).bind fun A3 =>
  some A3
else
  some A2)
def fX11_emit (x1 : Int32) (A : ruA) : Option (ruA) :=
  (if (A.1 83 17) = 0 then
  (rust A 92 200 (A.1 83 20) x1).bind fun A1 =>
  (some (ruset A1 83 20 ((A1.1 83 20) + (1 : Int32)))).bind fun A2 =>
  some A2
else
  some A)
def fX11_part_l4 {β : Type} (A : ruA) (k38 : Int32 → Option (β)) : Nat → Int32 → Int32 → Option (β)
  | 0, _, _ => none
  | n + 1, x1, x2 =>
  (if (6 : Int32) ≤ x2 then
  k38 x1
else
  (rulr A 91 6 x2).bind fun c1 =>
  (fX11_isWord c1 A).bind fun v2 =>
  ((if v2 = 0 then
  some x1
else
  some x2)).bind fun v3 =>
  fX11_part_l4 A k38 n v3 (x2 + (1 : Int32)))
def fX11_part_l73 {β : Type} (gX11_either : ruA → Option (ruA)) (A : ruA) (k102 : Int32 → Option (β)) : Nat → Int32 → Int32 → Option (β)
  | 0, _, _ => none
  | n + 1, x2, x3 =>
  (if (A.1 83 16) ≤ x3 then
  k102 x2
else
  (ruld (A.1 87) 100 x3).bind fun v38 =>
  fX11_part_l73 gX11_either A k102 n ((((10 : Int32) * x2) + v38) - (48 : Int32)) (x3 + (1 : Int32)))
def fX11_part (gX11_either : ruA → Option (ruA)) (A : ruA) : Option (ruA) :=
  fX11_part_l4 A
  (fun v4 => (if (A.1 83 17) = 0 then
  (if (A.1 83 14) = (2 : Int32) then
  (if (4 : Int32) < ((A.1 83 16) - (A.1 83 15)) then
  (if v4 < 0 then
  (fX11_isSign (40 : Int32) A).bind fun v27 =>
  ((if v27 = 0 then
  some (0 : Int32)
else
  (if (6 : Int32) ≤ (A.1 83 18) then
  some (0 : Int32)
else
  some (1 : Int32)))).bind fun v28 =>
  (fX11_need v28 A).bind fun A29 =>
  (some (ruset A29 83 18 ((A29.1 83 18) + (1 : Int32)))).bind fun A30 =>
  ((if (A30.1 83 17) = 0 then
  (gX11_either A30).bind fun A32 =>
  some A32
else
  some A30)).bind fun A31 =>
  (fX11_isSign (41 : Int32) A31).bind fun v33 =>
  (fX11_need v33 A31).bind fun A34 =>
  (some (ruset A34 83 18 ((A34.1 83 18) - (1 : Int32)))).bind fun A35 =>
  some A35
else
  (fX11_emit ((10000 : Int32) + v4) A).bind fun A36 =>
  (fX11_need (1 : Int32) A36).bind fun A37 =>
  some A37)
else
  fX11_part_l73 gX11_either A
  (fun v39 => (fX11_emit v39 A).bind fun A40 =>
  (fX11_need (1 : Int32) A40).bind fun A41 =>
  some A41) ruF (0 : Int32) (A.1 83 15))
else
  (if v4 < 0 then
  (fX11_isSign (40 : Int32) A).bind fun v16 =>
  ((if v16 = 0 then
  some (0 : Int32)
else
  (if (6 : Int32) ≤ (A.1 83 18) then
  some (0 : Int32)
else
  some (1 : Int32)))).bind fun v17 =>
  (fX11_need v17 A).bind fun A18 =>
  (some (ruset A18 83 18 ((A18.1 83 18) + (1 : Int32)))).bind fun A19 =>
  ((if (A19.1 83 17) = 0 then
  (gX11_either A19).bind fun A21 =>
  some A21
else
  some A19)).bind fun A20 =>
  (fX11_isSign (41 : Int32) A20).bind fun v22 =>
  (fX11_need v22 A20).bind fun A23 =>
  (some (ruset A23 83 18 ((A23.1 83 18) - (1 : Int32)))).bind fun A24 =>
  some A24
else
  (fX11_emit ((10000 : Int32) + v4) A).bind fun A25 =>
  (fX11_need (1 : Int32) A25).bind fun A26 =>
  some A26))
else
  (if v4 < 0 then
  (fX11_isSign (40 : Int32) A).bind fun v5 =>
  ((if v5 = 0 then
  some (0 : Int32)
else
  (if (6 : Int32) ≤ (A.1 83 18) then
  some (0 : Int32)
else
  some (1 : Int32)))).bind fun v6 =>
  (fX11_need v6 A).bind fun A7 =>
  (some (ruset A7 83 18 ((A7.1 83 18) + (1 : Int32)))).bind fun A8 =>
  ((if (A8.1 83 17) = 0 then
  (gX11_either A8).bind fun A10 =>
  some A10
else
  some A8)).bind fun A9 =>
  (fX11_isSign (41 : Int32) A9).bind fun v11 =>
  (fX11_need v11 A9).bind fun A12 =>
  (some (ruset A12 83 18 ((A12.1 83 18) - (1 : Int32)))).bind fun A13 =>
  some A13
else
  (fX11_emit ((10000 : Int32) + v4) A).bind fun A14 =>
  (fX11_need (1 : Int32) A14).bind fun A15 =>
  some A15))) ruF (-1 : Int32) (0 : Int32)
def fX11_sum_l4 {β : Type} (gX11_part : ruA → Option (ruA)) (k58 : ruA → Option (β)) : Nat → ruA → Option (β)
  | 0, _ => none
  | n + 1, A =>
  (fX11_isSign (43 : Int32) A).bind fun v2 =>
  (if v2 = 0 then
  (fX11_isSign (45 : Int32) A).bind fun v8 =>
  (if v8 = 0 then
  k58 A
else
  (fX11_isSign (43 : Int32) A).bind fun v9 =>
  ((if v9 = 0 then
  some (10101 : Int32)
else
  some (10100 : Int32))).bind fun v10 =>
  (fX11_need (1 : Int32) A).bind fun A11 =>
  (gX11_part A11).bind fun A12 =>
  (fX11_emit v10 A12).bind fun A13 =>
  fX11_sum_l4 gX11_part k58 n A13)
else
  (fX11_isSign (43 : Int32) A).bind fun v3 =>
  ((if v3 = 0 then
  some (10101 : Int32)
else
  some (10100 : Int32))).bind fun v4 =>
  (fX11_need (1 : Int32) A).bind fun A5 =>
  (gX11_part A5).bind fun A6 =>
  (fX11_emit v4 A6).bind fun A7 =>
  fX11_sum_l4 gX11_part k58 n A7)
def fX11_sum (gX11_part : ruA → Option (ruA)) (A : ruA) : Option (ruA) :=
  (gX11_part A).bind fun A1 =>
  fX11_sum_l4 gX11_part
  (fun A14 => some A14) ruF A1
def fX11_not (gX11_sum : ruA → Option (ruA)) (gX11_not : ruA → Option (ruA)) (A : ruA) : Option (ruA) :=
  (fX11_isSign (33 : Int32) A).bind fun v1 =>
  (if v1 = 0 then
  (gX11_sum A).bind fun A2 =>
  (fX11_isSign (60 : Int32) A2).bind fun v3 =>
  ((if v3 = 0 then
  (fX11_isSign (61 : Int32) A2).bind fun v5 =>
  (if v5 = 0 then
  (fX11_isSign (62 : Int32) A2).bind fun v6 =>
  (if v6 = 0 then
  some (0 : Int32)
else
  some (10104 : Int32))
else
  some (10103 : Int32))
else
  some (10102 : Int32))).bind fun v4 =>
  (if v4 ≤ 0 then
  some A2
else
  (fX11_need (1 : Int32) A2).bind fun A7 =>
  (gX11_sum A7).bind fun A8 =>
  (fX11_emit v4 A8).bind fun A9 =>
  some A9)
else
  ((if (6 : Int32) ≤ (A.1 83 18) then
  some (0 : Int32)
else
  some (1 : Int32))).bind fun v10 =>
  (fX11_need v10 A).bind fun A11 =>
  (some (ruset A11 83 18 ((A11.1 83 18) + (1 : Int32)))).bind fun A12 =>
  (gX11_not A12).bind fun A13 =>
  (some (ruset A13 83 18 ((A13.1 83 18) - (1 : Int32)))).bind fun A14 =>
  (fX11_emit (10107 : Int32) A14).bind fun A15 =>
  some A15)
def fX11_both_l4 {β : Type} (gX11_not : ruA → Option (ruA)) (k32 : ruA → Option (β)) : Nat → ruA → Option (β)
  | 0, _ => none
  | n + 1, A =>
  (fX11_isSign (38 : Int32) A).bind fun v2 =>
  (if v2 = 0 then
  k32 A
else
  (fX11_need (1 : Int32) A).bind fun A3 =>
  (gX11_not A3).bind fun A4 =>
  (fX11_emit (10105 : Int32) A4).bind fun A5 =>
  fX11_both_l4 gX11_not k32 n A5)
def fX11_both (gX11_not : ruA → Option (ruA)) (A : ruA) : Option (ruA) :=
  (gX11_not A).bind fun A1 =>
  fX11_both_l4 gX11_not
  (fun A6 => some A6) ruF A1
def fX11_either_l4 {β : Type} (gX11_both : ruA → Option (ruA)) (k32 : ruA → Option (β)) : Nat → ruA → Option (β)
  | 0, _ => none
  | n + 1, A =>
  (fX11_isSign (124 : Int32) A).bind fun v2 =>
  (if v2 = 0 then
  k32 A
else
  (fX11_need (1 : Int32) A).bind fun A3 =>
  (gX11_both A3).bind fun A4 =>
  (fX11_emit (10106 : Int32) A4).bind fun A5 =>
  fX11_either_l4 gX11_both k32 n A5)
def fX11_either (gX11_both : ruA → Option (ruA)) (A : ruA) : Option (ruA) :=
  (gX11_both A).bind fun A1 =>
  fX11_either_l4 gX11_both
  (fun A6 => some A6) ruF A1
def fX11_notK (e : ruA → Option ruA) : Nat → ruA → Option ruA
  | 0, _ => none
  | n + 1, A => fX11_not (fX11_sum (fX11_part e)) (fX11_notK e n) A
def fX11_eitherK : Nat → ruA → Option ruA
  | 0, _ => none
  | n + 1, A => fX11_either (fX11_both (fX11_notK (fX11_eitherK n) 10)) A
def fX11_eitherT (A : ruA) : Option ruA := fX11_eitherK 10 A
def fX11_way_l116 {β : Type} (x2 : Int32) (k146 : ruA → Option (β)) : Nat → Int32 → ruA → Option (β)
  | 0, _, _ => none
  | n + 1, x3, A =>
  (if (A.1 83 20) ≤ x3 then
  k146 A
else
  (ruld (A.1 92) 200 x3).bind fun v13 =>
  (rust A 84 4920 ((x2 + (1 : Int32)) + x3) v13).bind fun A14 =>
  fX11_way_l116 x2 k146 n (x3 + (1 : Int32)) A14)
def fX11_way (A : ruA) : Option (Int32 × ruA) :=
  (ruld (A.1 84) 4920 (3 : Int32)).bind fun v1 =>
  (if v1 = (6 : Int32) then
  ruB2 (fX11_finding (-1000002 : Int32) A) fun v19 A20 =>
  some (v19, A20)
else
  (some (ruset A 83 16 (0 : Int32))).bind fun A2 =>
  (some (ruset A2 83 17 (0 : Int32))).bind fun A3 =>
  (some (ruset A3 83 18 (0 : Int32))).bind fun A4 =>
  (some (ruset A4 83 20 (0 : Int32))).bind fun A5 =>
  (fX11_next A5).bind fun A6 =>
  (fX11_eitherT A6).bind fun A7 =>
  ((if (A7.1 83 17) = 0 then
  (if (A7.1 83 14) = 0 then
  some (0 : Int32)
else
  some (1 : Int32))
else
  some (1 : Int32))).bind fun v8 =>
  (rubz v8).bind fun _ =>
  (some (ruset A7 83 17 v8)).bind fun A9 =>
  (some (ruset A9 83 6 (0 : Int32))).bind fun A10 =>
  (if (A10.1 83 17) = 0 then
  (ruld (A10.1 84) 4920 (3 : Int32)).bind fun v11 =>
  (rust A10 84 4920 ((4160 : Int32) + ((104 : Int32) * v11)) (A10.1 83 20)).bind fun A12 =>
  fX11_way_l116 ((4160 : Int32) + ((104 : Int32) * v11))
  (fun A15 => (ruld (A15.1 84) 4920 (3 : Int32)).bind fun v16 =>
  (rust A15 84 4920 (3 : Int32) (v16 + (1 : Int32))).bind fun A17 =>
  (ruld (A17.1 84) 4920 (3 : Int32)).bind fun v18 =>
  some ((v18 - (1 : Int32)), A17)) ruF (0 : Int32) A12
else
  some (((-1 : Int32) - (A9.1 83 15)), A10)))
def fX11_done (x0 : Int32) (x1 : Int32) (x2 : Int32) : Option (Int32) :=
  (if x0 = (10100 : Int32) then
  some (x1 + x2)
else
  (if x0 = (10101 : Int32) then
  some (x1 - x2)
else
  (if x0 = (10102 : Int32) then
  (if x2 ≤ x1 then
  some (0 : Int32)
else
  some (1 : Int32))
else
  (if x0 = (10103 : Int32) then
  (if x1 = x2 then
  some (1 : Int32)
else
  some (0 : Int32))
else
  (if x0 = (10104 : Int32) then
  (if x1 ≤ x2 then
  some (0 : Int32)
else
  some (1 : Int32))
else
  (if x0 = (10105 : Int32) then
  (if x1 = 0 then
  some (0 : Int32)
else
  (if x2 = 0 then
  some (0 : Int32)
else
  some (1 : Int32)))
else
  (if x1 = 0 then
  (if x2 = 0 then
  some (0 : Int32)
else
  some (1 : Int32))
else
  some (1 : Int32))))))))
def fX11_worked_l16 {β : Type} (x2 : Int32) (x3 : Int32) (x4 : Int32) (k164 : ruA → Option (β)) : Nat → Int32 → Int32 → ruA → Option (β)
  | 0, _, _, _ => none
  | n + 1, x5, x6, A =>
  (ruld (A.1 84) 4920 x4).bind fun v1 =>
  (if v1 ≤ x6 then
  k164 A
else
  (ruld (A.1 84) 4920 ((x4 + (1 : Int32)) + x6)).bind fun v2 =>
  ruB2 ((if (10100 : Int32) ≤ v2 then
  (if v2 = (10107 : Int32) then
  (ruld (A.1 93) 200 (x5 - (1 : Int32))).bind fun v9 =>
  ((if v9 = 0 then
  some (1 : Int32)
else
  some (0 : Int32))).bind fun v10 =>
  (rust A 93 200 (x5 - (1 : Int32)) v10).bind fun A11 =>
  some (x5, A11)
else
  (ruld (A.1 93) 200 ((x5 + (-1 : Int32)) - (1 : Int32))).bind fun v5 =>
  (ruld (A.1 93) 200 (x5 + (-1 : Int32))).bind fun v6 =>
  (fX11_done v2 v5 v6).bind fun v7 =>
  (rust A 93 200 ((x5 + (-1 : Int32)) - (1 : Int32)) v7).bind fun A8 =>
  some ((x5 + (-1 : Int32)), A8))
else
  ruB2 ((if (10000 : Int32) ≤ v2 then
  ruB2 (fX11_measured x2 x3 (v2 - (10000 : Int32)) A) fun v14 A15 =>
  some (v14, A15)
else
  some (v2, A))) fun v12 A13 =>
  (rust A13 93 200 x5 v12).bind fun A16 =>
  some ((x5 + (1 : Int32)), A16))) fun v3 A4 =>
  fX11_worked_l16 x2 x3 x4 k164 n v3 (x6 + (1 : Int32)) A4)
def fX11_worked (x1 : Int32) (x2 : Int32) (x3 : Int32) (A : ruA) : Option (Int32 × ruA) :=
  fX11_worked_l16 x2 x3 ((4160 : Int32) + ((104 : Int32) * x1))
  (fun A17 => (ruld (A17.1 93) 200 (0 : Int32)).bind fun v18 =>
  some (v18, A17)) ruF (0 : Int32) (0 : Int32) A
def fX11_says (x1 : Int32) (x2 : Int32) (x3 : Int32) (A : ruA) : Option (Int32 × ruA) :=
  (fX11_is x1 (3 : Int32) A).bind fun v1 =>
  (if v1 = 0 then
  ruB2 (fX11_finding (-1000001 : Int32) A) fun v2 A3 =>
  some (v2, A3)
else
  (fX11_is x2 (1 : Int32) A).bind fun v4 =>
  (if v4 = 0 then
  ruB2 (fX11_finding (-1000001 : Int32) A) fun v5 A6 =>
  some (v5, A6)
else
  (fX11_isYear x3).bind fun v7 =>
  (if v7 = 0 then
  ruB2 (fX11_finding (-1000001 : Int32) A) fun v13 A14 =>
  some (v13, A14)
else
  (fX11_sheetsOf x2 x3 A).bind fun v8 =>
  (if v8 = 0 then
  ruB2 (fX11_finding (-1000004 : Int32) A) fun v11 A12 =>
  some (v11, A12)
else
  ruB2 (fX11_worked x1 x2 x3 A) fun v9 A10 =>
  some (v9, A10)))))
def fX11_judges_l38 {β : Type} (x1 : Int32) (x2 : Int32) (x3 : Int32) (k155 : Int32 → ruA → Option (β)) : Nat → Int32 → Int32 → ruA → Option (β)
  | 0, _, _, _ => none
  | n + 1, x4, x5, A =>
  (ruld (A.1 84) 4920 (1 : Int32)).bind fun v8 =>
  (if v8 ≤ x5 then
  k155 x4 A
else
  (fX11_sheetsOf x5 x2 A).bind fun v9 =>
  ruB2 ((if v9 ≤ 0 then
  some (x4, A)
else
  ruB2 (fX11_worked x1 x5 x2 A) fun v12 A13 =>
  ((if v12 = 0 then
  some (0 : Int32)
else
  some (1 : Int32))).bind fun v14 =>
  ruB2 (fX11_measured x5 x2 (6 : Int32) A13) fun v15 A16 =>
  ((if v15 ≤ 0 then
  some (0 : Int32)
else
  some (1 : Int32))).bind fun v17 =>
  ((if x3 = 0 then
  (if v14 = 0 then
  some (0 : Int32)
else
  some ((1 : Int32) <<< (x5 &&& 31)))
else
  (if x3 = (1 : Int32) then
  (if v14 = 0 then
  some (0 : Int32)
else
  (if v17 = 0 then
  some ((1 : Int32) <<< (x5 &&& 31))
else
  some (0 : Int32)))
else
  (if v14 = 0 then
  (if v17 = 0 then
  some (0 : Int32)
else
  some ((1 : Int32) <<< (x5 &&& 31)))
else
  some (0 : Int32))))).bind fun v18 =>
  some ((x4 ||| v18), A16))) fun v10 A11 =>
  fX11_judges_l38 x1 x2 x3 k155 n v10 (x5 + (1 : Int32)) A11)
def fX11_judges (x1 : Int32) (x2 : Int32) (x3 : Int32) (A : ruA) : Option (Int32 × ruA) :=
  (fX11_is x1 (3 : Int32) A).bind fun v1 =>
  (if v1 = 0 then
  ruB2 (fX11_finding (-1000001 : Int32) A) fun v2 A3 =>
  some (v2, A3)
else
  (fX11_isYear x2).bind fun v4 =>
  (if v4 = 0 then
  ruB2 (fX11_finding (-1000001 : Int32) A) fun v5 A6 =>
  some (v5, A6)
else
  (fX11_within x3 (0 : Int32) (2 : Int32)).bind fun v7 =>
  (if v7 = 0 then
  ruB2 (fX11_finding (-1000001 : Int32) A) fun v21 A22 =>
  some (v21, A22)
else
  fX11_judges_l38 x1 x2 x3
  (fun v19 A20 => some (v19, A20)) ruF (0 : Int32) (0 : Int32) A)))
def fX11_line_l38 {β : Type} (x1 : Int32) (x2 : Int32) (x3 : Int32) (k107 : Int32 → ruA → Option (β)) : Nat → Int32 → Int32 → ruA → Option (β)
  | 0, _, _, _ => none
  | n + 1, x4, x5, A =>
  (ruld (A.1 84) 4920 (1 : Int32)).bind fun v8 =>
  (if v8 ≤ x5 then
  k107 x4 A
else
  (fX11_sheetsOf x5 x2 A).bind fun v9 =>
  ruB2 ((if v9 ≤ 0 then
  some (x4, A)
else
  ruB2 (fX11_measured x5 x2 x1 A) fun v12 A13 =>
  (rust A13 94 6 x4 v12).bind fun A14 =>
  ruB2 (fX11_measured x5 x2 (6 : Int32) A14) fun v15 A16 =>
  ((if v15 ≤ 0 then
  some (0 : Int32)
else
  some (1 : Int32))).bind fun v17 =>
  (rust A16 95 6 x4 (v17 &&& 1)).bind fun A18 =>
  some ((x4 + (1 : Int32)), A18))) fun v10 A11 =>
  fX11_line_l38 x1 x2 x3 k107 n v10 (x5 + (1 : Int32)) A11)
def fX11_line_l148 {β : Type} (x3 : Int32) (x4 : Int32) (x5 : Int32) (x6 : Int32) (x7 : Int32) (x8 : Int32) (A : ruA) (k225 : Int32 → Int32 → Option (β)) : Nat → Int32 → Int32 → Int32 → Option (β)
  | 0, _, _, _ => none
  | n + 1, x9, x10, x11 =>
  (if x4 ≤ x11 then
  k225 x9 x10
else
  (ruld (A.1 94) 6 x11).bind fun v21 =>
  ((if v21 < x8 then
  some (0 : Int32)
else
  (ruld (A.1 95) 6 x11).bind fun v23 =>
  (if v23 = 0 then
  some (1 : Int32)
else
  some (0 : Int32)))).bind fun v22 =>
  (ruld (A.1 94) 6 x11).bind fun v24 =>
  ((if x8 ≤ v24 then
  some (0 : Int32)
else
  (ruld (A.1 95) 6 x11).bind fun v26 =>
  (if v26 = 0 then
  some (0 : Int32)
else
  some (1 : Int32)))).bind fun v25 =>
  fX11_line_l148 x3 x4 x5 x6 x7 x8 A k225 n (x9 + v22) (x10 + v25) (x11 + (1 : Int32)))
def fX11_line_l131 {β : Type} (x3 : Int32) (x4 : Int32) (A : ruA) (k278 : Int32 → Int32 → Int32 → Option (β)) : Nat → Int32 → Int32 → Int32 → Int32 → Option (β)
  | 0, _, _, _, _ => none
  | n + 1, x5, x6, x7, x8 =>
  (if (10000 : Int32) ≤ x8 then
  k278 x5 x6 x7
else
  fX11_line_l148 x3 x4 x5 x6 x7 x8 A
  (fun v27 v28 => ruB3 ((if x5 < 0 then
  some (x8, v27, v28)
else
  (if (((v27 + v28) - x6) - x7) < 0 then
  some (x8, v27, v28)
else
  (if (((v27 + v28) - x6) - x7) = 0 then
  (if x6 ≤ v27 then
  some (x5, x6, x7)
else
  some (x8, v27, v28))
else
  some (x5, x6, x7))))) fun v29 v30 v31 =>
  fX11_line_l131 x3 x4 A k278 n v29 v30 v31 (x8 + (1 : Int32))) ruF (0 : Int32) (0 : Int32) (0 : Int32))
def fX11_line (x1 : Int32) (x2 : Int32) (x3 : Int32) (A : ruA) : Option (Int32 × ruA) :=
  (fX11_within x1 (0 : Int32) (5 : Int32)).bind fun v1 =>
  (if v1 = 0 then
  ruB2 (fX11_finding (-1000001 : Int32) A) fun v2 A3 =>
  some (v2, A3)
else
  (fX11_isYear x2).bind fun v4 =>
  (if v4 = 0 then
  ruB2 (fX11_finding (-1000001 : Int32) A) fun v5 A6 =>
  some (v5, A6)
else
  (fX11_within x3 (0 : Int32) (2 : Int32)).bind fun v7 =>
  (if v7 = 0 then
  ruB2 (fX11_finding (-1000001 : Int32) A) fun v37 A38 =>
  some (v37, A38)
else
  fX11_line_l38 x1 x2 x3
  (fun v19 A20 => (if v19 = 0 then
  ruB2 (fX11_finding (-1000004 : Int32) A20) fun v35 A36 =>
  some (v35, A36)
else
  fX11_line_l131 x3 v19 A20
  (fun v32 v33 v34 => (if x3 = 0 then
  some (v32, A20)
else
  (if x3 = (1 : Int32) then
  some (v33, A20)
else
  some (v34, A20)))) ruF (-1 : Int32) (0 : Int32) (0 : Int32) (0 : Int32))) ruF (0 : Int32) (0 : Int32) A)))
def fX11_areHours (x0 : Int32) (x1 : Int32) : Option (Int32) :=
  (fX11_within x0 (0 : Int32) (99 : Int32)).bind fun v1 =>
  (if v1 = 0 then
  some (0 : Int32)
else
  (fX11_within x1 (x0 + (1 : Int32)) (99 : Int32)).bind fun v2 =>
  (if v2 = 0 then
  some (0 : Int32)
else
  some (1 : Int32)))
def fX11_holds (x1 : Int32) (x2 : Int32) (x3 : Int32) (x4 : Int32) (A : ruA) : Option (Int32 × ruA) :=
  (fX11_within x1 (0 : Int32) (9 : Int32)).bind fun v1 =>
  (if v1 = 0 then
  ruB2 (fX11_finding (-1000001 : Int32) A) fun v2 A3 =>
  some (v2, A3)
else
  (fX11_is x2 (1 : Int32) A).bind fun v4 =>
  (if v4 = 0 then
  ruB2 (fX11_finding (-1000001 : Int32) A) fun v5 A6 =>
  some (v5, A6)
else
  (fX11_areHours x3 x4).bind fun v7 =>
  (if v7 = 0 then
  ruB2 (fX11_finding (-1000001 : Int32) A) fun v18 A19 =>
  some (v18, A19)
else
  (ruld (A.1 84) 4920 (4 : Int32)).bind fun v8 =>
  (if v8 = (30 : Int32) then
  ruB2 (fX11_finding (-1000002 : Int32) A) fun v16 A17 =>
  some (v16, A17)
else
  (rust A 84 4920 ((4784 : Int32) + ((4 : Int32) * v8)) x1).bind fun A9 =>
  (rust A9 84 4920 (((4784 : Int32) + ((4 : Int32) * v8)) + (1 : Int32)) x2).bind fun A10 =>
  (rust A10 84 4920 (((4784 : Int32) + ((4 : Int32) * v8)) + (2 : Int32)) x3).bind fun A11 =>
  (rust A11 84 4920 (((4784 : Int32) + ((4 : Int32) * v8)) + (3 : Int32)) x4).bind fun A12 =>
  (ruld (A12.1 84) 4920 (4 : Int32)).bind fun v13 =>
  (rust A12 84 4920 (4 : Int32) (v13 + (1 : Int32))).bind fun A14 =>
  (ruld (A14.1 84) 4920 (4 : Int32)).bind fun v15 =>
  some (v15, A14)))))
def fX11_isHeld_l6 {β : Type} (x1 : Int32) (x2 : Int32) (x3 : Int32) (A : ruA) (k99 : Int32 → Option (β)) : Nat → Int32 → Int32 → Option (β)
  | 0, _, _ => none
  | n + 1, x4, x5 =>
  (ruld (A.1 84) 4920 (4 : Int32)).bind fun v1 =>
  (if v1 ≤ x5 then
  k99 x4
else
  ((if x4 = 0 then
  (if x1 < 0 then
  (ruld (A.1 84) 4920 (((4784 : Int32) + ((4 : Int32) * x5)) + (1 : Int32))).bind fun v3 =>
  (if v3 = x2 then
  (ruld (A.1 84) 4920 (((4784 : Int32) + ((4 : Int32) * x5)) + (2 : Int32))).bind fun v4 =>
  (if x3 < v4 then
  some (0 : Int32)
else
  (ruld (A.1 84) 4920 (((4784 : Int32) + ((4 : Int32) * x5)) + (3 : Int32))).bind fun v5 =>
  (if v5 ≤ x3 then
  some (0 : Int32)
else
  some (1 : Int32)))
else
  some (0 : Int32))
else
  (ruld (A.1 84) 4920 ((4784 : Int32) + ((4 : Int32) * x5))).bind fun v6 =>
  (if v6 = x1 then
  (ruld (A.1 84) 4920 (((4784 : Int32) + ((4 : Int32) * x5)) + (1 : Int32))).bind fun v7 =>
  (if v7 = x2 then
  (ruld (A.1 84) 4920 (((4784 : Int32) + ((4 : Int32) * x5)) + (2 : Int32))).bind fun v8 =>
  (if x3 < v8 then
  some (0 : Int32)
else
  (ruld (A.1 84) 4920 (((4784 : Int32) + ((4 : Int32) * x5)) + (3 : Int32))).bind fun v9 =>
  (if v9 ≤ x3 then
  some (0 : Int32)
else
  some (1 : Int32)))
else
  some (0 : Int32))
else
  some (0 : Int32)))
else
  some (1 : Int32))).bind fun v2 =>
  fX11_isHeld_l6 x1 x2 x3 A k99 n v2 (x5 + (1 : Int32)))
def fX11_isHeld (x1 : Int32) (x2 : Int32) (x3 : Int32) (A : ruA) : Option (Int32) :=
  fX11_isHeld_l6 x1 x2 x3 A
  (fun v10 => (rubz v10).bind fun _ => some v10) ruF (0 : Int32) (0 : Int32)
def fX11_gaps_l43 {β : Type} (x1 : Int32) (x3 : Int32) (x4 : Int32) (A : ruA) (k83 : Int32 → Int32 → Option (β)) : Nat → Int32 → Int32 → Int32 → Option (β)
  | 0, _, _, _ => none
  | n + 1, x5, x6, x7 =>
  (if x3 ≤ x7 then
  k83 x5 x6
else
  (fX11_isHeld (-1 : Int32) x1 x7 A).bind fun v8 =>
  ruB2 ((if v8 = 0 then
  ((if 0 ≤ x6 then
  some x6
else
  some x7)).bind fun v11 =>
  some ((x5 + (1 : Int32)), v11)
else
  some (x5, x6))) fun v9 v10 =>
  fX11_gaps_l43 x1 x3 x4 A k83 n v9 v10 (x7 + (1 : Int32)))
def fX11_gaps (x1 : Int32) (x2 : Int32) (x3 : Int32) (x4 : Int32) (A : ruA) : Option (Int32 × ruA) :=
  (fX11_is x1 (1 : Int32) A).bind fun v1 =>
  (if v1 = 0 then
  ruB2 (fX11_finding (-1000001 : Int32) A) fun v2 A3 =>
  some (v2, A3)
else
  (fX11_areHours x2 x3).bind fun v4 =>
  (if v4 = 0 then
  ruB2 (fX11_finding (-1000001 : Int32) A) fun v5 A6 =>
  some (v5, A6)
else
  (fX11_within x4 (0 : Int32) (1 : Int32)).bind fun v7 =>
  (if v7 = 0 then
  ruB2 (fX11_finding (-1000001 : Int32) A) fun v14 A15 =>
  some (v14, A15)
else
  fX11_gaps_l43 x1 x3 x4 A
  (fun v12 v13 => (if x4 = 0 then
  some (v12, A)
else
  some (v13, A))) ruF (0 : Int32) (-1 : Int32) x2)))
def fX11_could_l54 {β : Type} (x1 : Int32) (x2 : Int32) (x3 : Int32) (x4 : Int32) (x5 : Int32) (x6 : Int32) (A : ruA) (k88 : Int32 → Option (β)) : Nat → Int32 → Int32 → Option (β)
  | 0, _, _ => none
  | n + 1, x7, x8 =>
  (if x3 ≤ x8 then
  k88 x7
else
  (fX11_isHeld x6 x1 x8 A).bind fun v8 =>
  ((if v8 = 0 then
  some (0 : Int32)
else
  some (1 : Int32))).bind fun v9 =>
  fX11_could_l54 x1 x2 x3 x4 x5 x6 A k88 n (x7 + v9) (x8 + (1 : Int32)))
def fX11_could_l41 {β : Type} (x1 : Int32) (x2 : Int32) (x3 : Int32) (x4 : Int32) (A : ruA) (k114 : Int32 → Option (β)) : Nat → Int32 → Int32 → Option (β)
  | 0, _, _ => none
  | n + 1, x5, x6 =>
  (if (10 : Int32) ≤ x6 then
  k114 x5
else
  fX11_could_l54 x1 x2 x3 x4 x5 x6 A
  (fun v10 => ((if v10 < x4 then
  some (0 : Int32)
else
  some ((1 : Int32) <<< (x6 &&& 31)))).bind fun v11 =>
  fX11_could_l41 x1 x2 x3 x4 A k114 n (x5 ||| v11) (x6 + (1 : Int32))) ruF (0 : Int32) x2)
def fX11_could (x1 : Int32) (x2 : Int32) (x3 : Int32) (x4 : Int32) (A : ruA) : Option (Int32 × ruA) :=
  (fX11_is x1 (1 : Int32) A).bind fun v1 =>
  (if v1 = 0 then
  ruB2 (fX11_finding (-1000001 : Int32) A) fun v2 A3 =>
  some (v2, A3)
else
  (fX11_areHours x2 x3).bind fun v4 =>
  (if v4 = 0 then
  ruB2 (fX11_finding (-1000001 : Int32) A) fun v5 A6 =>
  some (v5, A6)
else
  (fX11_within x4 (1 : Int32) (99 : Int32)).bind fun v7 =>
  (if v7 = 0 then
  ruB2 (fX11_finding (-1000001 : Int32) A) fun v13 A14 =>
  some (v13, A14)
else
  fX11_could_l41 x1 x2 x3 x4 A
  (fun v12 => some (v12, A)) ruF (0 : Int32) (0 : Int32))))
def fX11_form (x1 : Int32) (x2 : Int32) (A : ruA) : Option (Int32 × ruA) :=
  (fX11_within x1 (0 : Int32) (99 : Int32)).bind fun v1 =>
  (if v1 = 0 then
  ruB2 (fX11_finding (-1000001 : Int32) A) fun v2 A3 =>
  some (v2, A3)
else
  (fX11_within x2 (0 : Int32) (255 : Int32)).bind fun v4 =>
  (if v4 = 0 then
  ruB2 (fX11_finding (-1000001 : Int32) A) fun v12 A13 =>
  some (v12, A13)
else
  (ruld (A.1 84) 4920 (5 : Int32)).bind fun v5 =>
  (if v5 = (8 : Int32) then
  ruB2 (fX11_finding (-1000002 : Int32) A) fun v10 A11 =>
  some (v10, A11)
else
  (rust A 84 4920 ((4904 : Int32) + ((2 : Int32) * v5)) x1).bind fun A6 =>
  (rust A6 84 4920 (((4904 : Int32) + ((2 : Int32) * v5)) + (1 : Int32)) x2).bind fun A7 =>
  (ruld (A7.1 84) 4920 (5 : Int32)).bind fun v8 =>
  (rust A7 84 4920 (5 : Int32) (v8 + (1 : Int32))).bind fun A9 =>
  some (v5, A9))))
def fX11_isBarred_l5 {β : Type} (x2 : Int32) (k39 : Int32 → Option (β)) : Nat → Int32 → Int32 → Option (β)
  | 0, _, _ => none
  | n + 1, x3, x4 =>
  (if x4 < 0 then
  k39 x3
else
  ((if x3 = 0 then
  (fX11_has x2 x4).bind fun v2 =>
  (if v2 = 0 then
  some (0 : Int32)
else
  some (1 : Int32))
else
  some (1 : Int32))).bind fun v1 =>
  (fX11_above x4).bind fun v3 =>
  fX11_isBarred_l5 x2 k39 n v1 v3)
def fX11_isBarred (x1 : Int32) (x2 : Int32) : Option (Int32) :=
  fX11_isBarred_l5 x2
  (fun v4 => (rubz v4).bind fun _ => some v4) ruF (0 : Int32) x1
def fX11_cheapest_l57 {β : Type} (x1 : Int32) (x2 : Int32) (x3 : Int32) (x4 : Int32) (x5 : Int32) (A : ruA) (k140 : Int32 → Int32 → Option (β)) : Nat → Int32 → Int32 → Int32 → Option (β)
  | 0, _, _, _ => none
  | n + 1, x6, x7, x8 =>
  (ruld (A.1 84) 4920 (5 : Int32)).bind fun v6 =>
  (if v6 ≤ x8 then
  k140 x6 x7
else
  (fX11_has x5 x8).bind fun v7 =>
  ((if v7 = 0 then
  some (0 : Int32)
else
  (ruld (A.1 84) 4920 (((4904 : Int32) + ((2 : Int32) * x8)) + (1 : Int32))).bind fun v9 =>
  some v9)).bind fun v8 =>
  (fX11_has x5 x8).bind fun v10 =>
  ((if v10 = 0 then
  some (0 : Int32)
else
  (ruld (A.1 84) 4920 ((4904 : Int32) + ((2 : Int32) * x8))).bind fun v12 =>
  some v12)).bind fun v11 =>
  fX11_cheapest_l57 x1 x2 x3 x4 x5 A k140 n (x6 ||| v8) (x7 + v11) (x8 + (1 : Int32)))
def fX11_cheapest_l146 {β : Type} (x1 : Int32) (x2 : Int32) (x3 : Int32) (x4 : Int32) (x5 : Int32) (x6 : Int32) (x7 : Int32) (k191 : Int32 → Option (β)) : Nat → Int32 → Int32 → Option (β)
  | 0, _, _ => none
  | n + 1, x8, x9 =>
  (if (7 : Int32) < x9 then
  k191 x8
else
  ((if x8 = 0 then
  some (0 : Int32)
else
  (fX11_has x1 x9).bind fun v16 =>
  (if v16 = 0 then
  some (1 : Int32)
else
  (fX11_isBarred x9 x6).bind fun v17 =>
  (if v17 = 0 then
  some (0 : Int32)
else
  some (1 : Int32))))).bind fun v15 =>
  fX11_cheapest_l146 x1 x2 x3 x4 x5 x6 x7 k191 n v15 (x9 + (1 : Int32)))
def fX11_cheapest_l35 {β : Type} (x1 : Int32) (x2 : Int32) (A : ruA) (k239 : Int32 → Int32 → Option (β)) : Nat → Int32 → Int32 → Int32 → Option (β)
  | 0, _, _, _ => none
  | n + 1, x3, x4, x5 =>
  (ruld (A.1 84) 4920 (5 : Int32)).bind fun v5 =>
  (if ((1 : Int32) <<< (v5 &&& 31)) ≤ x5 then
  k239 x3 x4
else
  fX11_cheapest_l57 x1 x2 x3 x4 x5 A
  (fun v13 v14 => fX11_cheapest_l146 x1 x2 x3 x4 x5 v13 v14
  (fun v18 => ruB2 ((if v18 = 0 then
  some (x3, x4)
else
  (if x3 < 0 then
  some (x5, v14)
else
  (if v14 < x4 then
  some (x5, v14)
else
  (if v14 = x4 then
  (fX11_bits x5).bind fun v21 =>
  (fX11_bits x3).bind fun v22 =>
  (if v22 ≤ v21 then
  some (x3, x4)
else
  some (x5, v14))
else
  some (x3, x4)))))) fun v19 v20 =>
  fX11_cheapest_l35 x1 x2 A k239 n v19 v20 (x5 + (1 : Int32))) ruF (1 : Int32) (0 : Int32)) ruF (0 : Int32) (0 : Int32) (0 : Int32))
def fX11_cheapest (x1 : Int32) (x2 : Int32) (A : ruA) : Option (Int32 × ruA) :=
  (fX11_within x1 (0 : Int32) (255 : Int32)).bind fun v1 =>
  (if v1 = 0 then
  ruB2 (fX11_finding (-1000001 : Int32) A) fun v2 A3 =>
  some (v2, A3)
else
  (fX11_within x2 (0 : Int32) (1 : Int32)).bind fun v4 =>
  (if v4 = 0 then
  ruB2 (fX11_finding (-1000001 : Int32) A) fun v27 A28 =>
  some (v27, A28)
else
  fX11_cheapest_l35 x1 x2 A
  (fun v23 v24 => (if 0 ≤ v23 then
  (if x2 = 0 then
  some (v24, A)
else
  some (v23, A))
else
  ruB2 (fX11_finding (-1000004 : Int32) A) fun v25 A26 =>
  some (v25, A26))) ruF (-1 : Int32) (0 : Int32) (0 : Int32)))
def fX11_slip_l85 {β : Type} (x1 : Int32) (k111 : ruA → Option (β)) : Nat → Int32 → ruA → Option (β)
  | 0, _, _ => none
  | n + 1, x4, A =>
  (if (24 : Int32) ≤ x4 then
  k111 A
else
  (rust A 90 96 (((24 : Int32) * x1) + x4) (0 : Int32)).bind fun A7 =>
  fX11_slip_l85 x1 k111 n (x4 + (1 : Int32)) A7)
def fX11_slip (x1 : Int32) (x2 : Int32) (x3 : Int32) (A : ruA) : Option (Int32 × ruA) :=
  (fX11_isSlip x1).bind fun v1 =>
  (if v1 = 0 then
  ruB2 (fX11_finding (-1000001 : Int32) A) fun v2 A3 =>
  some (v2, A3)
else
  (if x2 = 0 then
  (if 0 ≤ x3 then
  (if x3 ≤ (24 : Int32) then
  (rust A 88 4 x1 x2).bind fun A4 =>
  ((if x2 = 0 then
  some (0 : Int32)
else
  some x3)).bind fun v5 =>
  (rust A4 89 4 x1 v5).bind fun A6 =>
  fX11_slip_l85 x1
  (fun A8 => (ruld (A8.1 89) 4 x1).bind fun v9 =>
  some (v9, A8)) ruF (0 : Int32) A6
else
  ruB2 (fX11_finding (-1000001 : Int32) A) fun v10 A11 =>
  some (v10, A11))
else
  ruB2 (fX11_finding (-1000007 : Int32) A) fun v12 A13 =>
  some (v12, A13))
else
  (if x2 = (8 : Int32) then
  (if 0 ≤ x3 then
  (if x3 ≤ (24 : Int32) then
  (rust A 88 4 x1 x2).bind fun A14 =>
  ((if x2 = 0 then
  some (0 : Int32)
else
  some x3)).bind fun v15 =>
  (rust A14 89 4 x1 v15).bind fun A16 =>
  fX11_slip_l85 x1
  (fun A17 => (ruld (A17.1 89) 4 x1).bind fun v18 =>
  some (v18, A17)) ruF (0 : Int32) A16
else
  ruB2 (fX11_finding (-1000001 : Int32) A) fun v19 A20 =>
  some (v19, A20))
else
  ruB2 (fX11_finding (-1000007 : Int32) A) fun v21 A22 =>
  some (v21, A22))
else
  (if x2 = (16 : Int32) then
  (if 0 ≤ x3 then
  (if x3 ≤ (24 : Int32) then
  (rust A 88 4 x1 x2).bind fun A23 =>
  ((if x2 = 0 then
  some (0 : Int32)
else
  some x3)).bind fun v24 =>
  (rust A23 89 4 x1 v24).bind fun A25 =>
  fX11_slip_l85 x1
  (fun A26 => (ruld (A26.1 89) 4 x1).bind fun v27 =>
  some (v27, A26)) ruF (0 : Int32) A25
else
  ruB2 (fX11_finding (-1000001 : Int32) A) fun v28 A29 =>
  some (v28, A29))
else
  ruB2 (fX11_finding (-1000007 : Int32) A) fun v30 A31 =>
  some (v30, A31))
else
  (if x2 = (32 : Int32) then
  (if 0 ≤ x3 then
  (if x3 ≤ (24 : Int32) then
  (rust A 88 4 x1 x2).bind fun A32 =>
  ((if x2 = 0 then
  some (0 : Int32)
else
  some x3)).bind fun v33 =>
  (rust A32 89 4 x1 v33).bind fun A34 =>
  fX11_slip_l85 x1
  (fun A35 => (ruld (A35.1 89) 4 x1).bind fun v36 =>
  some (v36, A35)) ruF (0 : Int32) A34
else
  ruB2 (fX11_finding (-1000001 : Int32) A) fun v37 A38 =>
  some (v37, A38))
else
  ruB2 (fX11_finding (-1000007 : Int32) A) fun v39 A40 =>
  some (v39, A40))
else
  ruB2 (fX11_finding (-1000001 : Int32) A) fun v41 A42 =>
  some (v41, A42))))))
def fX11_cut (x0 : Int32) (x1 : Int32) : Option (Int32) :=
  (if x1 = (8 : Int32) then
  some (x0).toInt8.toInt32
else
  (if x1 = (16 : Int32) then
  some (x0).toInt16.toInt32
else
  some x0))
def fX11_write (x1 : Int32) (x2 : Int32) (x3 : Int32) (A : ruA) : Option (Int32 × ruA) :=
  (fX11_isSlip x1).bind fun v1 =>
  (if v1 = 0 then
  ruB2 (fX11_finding (-1000001 : Int32) A) fun v12 A13 =>
  some (v12, A13)
else
  (ruld (A.1 88) 4 x1).bind fun v2 =>
  (if v2 = 0 then
  ruB2 (fX11_finding (-1000006 : Int32) A) fun v10 A11 =>
  some (v10, A11)
else
  (ruld (A.1 89) 4 x1).bind fun v3 =>
  (fX11_within x2 (0 : Int32) (v3 - (1 : Int32))).bind fun v4 =>
  (if v4 = 0 then
  ruB2 (fX11_finding (-1000001 : Int32) A) fun v8 A9 =>
  some (v8, A9)
else
  (ruld (A.1 88) 4 x1).bind fun v5 =>
  (fX11_cut x3 v5).bind fun v6 =>
  (rust A 90 96 (((24 : Int32) * x1) + x2) v6).bind fun A7 =>
  some ((1 : Int32), A7))))
def fX11_copy_l127 {β : Type} (x1 : Int32) (x2 : Int32) (x3 : Int32) (x4 : Int32) (x5 : Int32) (k161 : ruA → Option (β)) : Nat → Int32 → ruA → Option (β)
  | 0, _, _ => none
  | n + 1, x6, A =>
  (if x5 ≤ x6 then
  k161 A
else
  (ruld (A.1 90) 96 ((((24 : Int32) * x1) + x2) + x6)).bind fun v21 =>
  (rust A 96 24 x6 v21).bind fun A22 =>
  fX11_copy_l127 x1 x2 x3 x4 x5 k161 n (x6 + (1 : Int32)) A22)
def fX11_copy_l164 {β : Type} (x3 : Int32) (x4 : Int32) (x5 : Int32) (k199 : ruA → Option (β)) : Nat → Int32 → ruA → Option (β)
  | 0, _, _ => none
  | n + 1, x6, A =>
  (if x5 ≤ x6 then
  k199 A
else
  (ruld (A.1 96) 24 x6).bind fun v24 =>
  (rust A 90 96 ((((24 : Int32) * x3) + x4) + x6) v24).bind fun A25 =>
  fX11_copy_l164 x3 x4 x5 k199 n (x6 + (1 : Int32)) A25)
def fX11_copy (x1 : Int32) (x2 : Int32) (x3 : Int32) (x4 : Int32) (x5 : Int32) (A : ruA) : Option (Int32 × ruA) :=
  (fX11_isSlip x1).bind fun v1 =>
  (if v1 = 0 then
  ruB2 (fX11_finding (-1000001 : Int32) A) fun v2 A3 =>
  some (v2, A3)
else
  (fX11_isSlip x3).bind fun v4 =>
  (if v4 = 0 then
  ruB2 (fX11_finding (-1000001 : Int32) A) fun v33 A34 =>
  some (v33, A34)
else
  (ruld (A.1 88) 4 x1).bind fun v5 =>
  (if v5 = 0 then
  ruB2 (fX11_finding (-1000006 : Int32) A) fun v6 A7 =>
  some (v6, A7)
else
  (ruld (A.1 88) 4 x3).bind fun v8 =>
  (if v8 = 0 then
  ruB2 (fX11_finding (-1000006 : Int32) A) fun v31 A32 =>
  some (v31, A32)
else
  (ruld (A.1 88) 4 x1).bind fun v9 =>
  (ruld (A.1 88) 4 x3).bind fun v10 =>
  (if v9 = v10 then
  (if x2 < 0 then
  ruB2 (fX11_finding (-1000001 : Int32) A) fun v11 A12 =>
  some (v11, A12)
else
  (if x4 < 0 then
  ruB2 (fX11_finding (-1000001 : Int32) A) fun v13 A14 =>
  some (v13, A14)
else
  (if x5 < 0 then
  ruB2 (fX11_finding (-1000001 : Int32) A) fun v15 A16 =>
  some (v15, A16)
else
  (ruld (A.1 89) 4 x1).bind fun v17 =>
  (if 0 < (lg_cmp ((x2).toInt64 + (x5).toInt64) (v17).toInt64) then
  ruB2 (fX11_finding (-1000001 : Int32) A) fun v18 A19 =>
  some (v18, A19)
else
  (ruld (A.1 89) 4 x3).bind fun v20 =>
  (if (lg_cmp ((x4).toInt64 + (x5).toInt64) (v20).toInt64) ≤ 0 then
  fX11_copy_l127 x1 x2 x3 x4 x5
  (fun A23 => fX11_copy_l164 x3 x4 x5
  (fun A26 => some (x5, A26)) ruF (0 : Int32) A23) ruF (0 : Int32) A
else
  ruB2 (fX11_finding (-1000001 : Int32) A) fun v27 A28 =>
  some (v27, A28))))))
else
  ruB2 (fX11_finding (-1000003 : Int32) A) fun v29 A30 =>
  some (v29, A30))))))
def fX11_check_l65 {β : Type} (x1 : Int32) (x2 : Int32) (x3 : Int32) (k112 : Int32 → ruA → Option (β)) : Nat → Int32 → ruA → Option (β)
  | 0, _, _ => none
  | n + 1, x4, A =>
  (ruld (A.1 89) 4 x3).bind fun v10 =>
  (if v10 ≤ x4 then
  k112 x4 A
else
  (if (7 : Int32) ≤ x4 then
  k112 x4 A
else
  (ruld (A.1 90) 96 (((24 : Int32) * x3) + x4)).bind fun v11 =>
  ruB2 (fX11_measured x1 x2 x4 A) fun v12 A13 =>
  (if v11 = v12 then
  fX11_check_l65 x1 x2 x3 k112 n (x4 + (1 : Int32)) A13
else
  k112 x4 A13)))
def fX11_check (x1 : Int32) (x2 : Int32) (x3 : Int32) (A : ruA) : Option (Int32 × ruA) :=
  (fX11_is x1 (1 : Int32) A).bind fun v1 =>
  (if v1 = 0 then
  ruB2 (fX11_finding (-1000001 : Int32) A) fun v2 A3 =>
  some (v2, A3)
else
  (fX11_isYear x2).bind fun v4 =>
  (if v4 = 0 then
  ruB2 (fX11_finding (-1000001 : Int32) A) fun v5 A6 =>
  some (v5, A6)
else
  (fX11_isSlip x3).bind fun v7 =>
  (if v7 = 0 then
  ruB2 (fX11_finding (-1000001 : Int32) A) fun v20 A21 =>
  some (v20, A21)
else
  (ruld (A.1 88) 4 x3).bind fun v8 =>
  (if v8 = 0 then
  ruB2 (fX11_finding (-1000006 : Int32) A) fun v18 A19 =>
  some (v18, A19)
else
  (fX11_sheetsOf x1 x2 A).bind fun v9 =>
  (if v9 = 0 then
  ruB2 (fX11_finding (-1000004 : Int32) A) fun v16 A17 =>
  some (v16, A17)
else
  fX11_check_l65 x1 x2 x3
  (fun v14 A15 => some (v14, A15)) ruF (0 : Int32) A)))))
def fX11_image_l2 {β : Type} (k27 : ruA → Option (β)) : Nat → Int32 → ruA → Option (β)
  | 0, _, _ => none
  | n + 1, x1, A =>
  (if (4920 : Int32) ≤ x1 then
  k27 A
else
  (ruld (A.1 84) 4920 x1).bind fun v1 =>
  (rust A 85 4920 x1 v1).bind fun A2 =>
  fX11_image_l2 k27 n (x1 + (1 : Int32)) A2)
def fX11_image (A : ruA) : Option (Int32 × ruA) :=
  fX11_image_l2
  (fun A3 => (some (ruset A3 83 2 (1 : Int32))).bind fun A4 =>
  some ((1 : Int32), A4)) ruF (0 : Int32) A
def fX11_undo_l16 {β : Type} (k41 : ruA → Option (β)) : Nat → Int32 → ruA → Option (β)
  | 0, _, _ => none
  | n + 1, x1, A =>
  (if (4920 : Int32) ≤ x1 then
  k41 A
else
  (ruld (A.1 85) 4920 x1).bind fun v1 =>
  (rust A 84 4920 x1 v1).bind fun A2 =>
  fX11_undo_l16 k41 n (x1 + (1 : Int32)) A2)
def fX11_undo (A : ruA) : Option (Int32 × ruA) :=
  (if (A.1 83 2) = 0 then
  ruB2 (fX11_finding (-1000004 : Int32) A) fun v5 A6 =>
  some (v5, A6)
else
  fX11_undo_l16
  (fun A3 => (ruld (A3.1 84) 4920 (0 : Int32)).bind fun v4 =>
  some (v4, A3)) ruF (0 : Int32) A)
def fX11_tear (A : ruA) : Option (Int32 × ruA) :=
  ((if (A.1 83 2) = 0 then
  some (0 : Int32)
else
  some (1 : Int32))).bind fun v1 =>
  (some (ruset A 83 2 (0 : Int32))).bind fun A2 =>
  some (v1, A2)
def fX11_allOf_l29 {β : Type} (x1 : Int32) (x2 : Int32) (x3 : Int32) (x5 : Int32) (x6 : Int32) (A : ruA) (k120 : Int32 → Option (β)) : Nat → Int32 → Int32 → Option (β)
  | 0, _, _ => none
  | n + 1, x4, x7 =>
  (if (12 : Int32) ≤ x7 then
  k120 x4
else
  (fX11_hasSheet x5 x6 A).bind fun v2 =>
  (if v2 = 0 then
  k120 x4
else
  ((if x3 = 0 then
  (if x7 = 0 then
  some (1 : Int32)
else
  some (0 : Int32))
else
  (if x3 = (1 : Int32) then
  (fX11_choice x5 x6 x7 A).bind fun v5 =>
  (if v5 = (-1 : Int32) then
  some (0 : Int32)
else
  some (1 : Int32))
else
  (fX11_isRight x5 x6 x7 A).bind fun v4 =>
  (if v4 = 0 then
  some (0 : Int32)
else
  some (1 : Int32))))).bind fun v3 =>
  fX11_allOf_l29 x1 x2 x3 x5 x6 A k120 n (x4 + v3) (x7 + (1 : Int32))))
def fX11_allOf_l20 {β : Type} (x1 : Int32) (x2 : Int32) (x3 : Int32) (x5 : Int32) (A : ruA) (k126 : Int32 → Option (β)) : Nat → Int32 → Int32 → Option (β)
  | 0, _, _ => none
  | n + 1, x4, x6 =>
  (if x2 < x6 then
  k126 x4
else
  fX11_allOf_l29 x1 x2 x3 x5 x6 A
  (fun v6 => fX11_allOf_l20 x1 x2 x3 x5 A k126 n v6 (x6 + (1 : Int32))) ruF x4 (0 : Int32))
def fX11_allOf_l6 {β : Type} (x1 : Int32) (x2 : Int32) (x3 : Int32) (A : ruA) (k132 : Int32 → Option (β)) : Nat → Int32 → Int32 → Option (β)
  | 0, _, _ => none
  | n + 1, x4, x5 =>
  (ruld (A.1 84) 4920 (2 : Int32)).bind fun v1 =>
  (if v1 ≤ x5 then
  k132 x4
else
  fX11_allOf_l20 x1 x2 x3 x5 A
  (fun v7 => fX11_allOf_l6 x1 x2 x3 A k132 n v7 (x5 + (1 : Int32))) ruF x4 x1)
def fX11_allOf (x1 : Int32) (x2 : Int32) (x3 : Int32) (A : ruA) : Option (Int32) :=
  fX11_allOf_l6 x1 x2 x3 A
  (fun v8 => some v8) ruF (0 : Int32) (0 : Int32)
def fX11_count (x1 : Int32) (A : ruA) : Option (Int32 × ruA) :=
  (if x1 = (0 : Int32) then
  (ruld (A.1 84) 4920 (1 : Int32)).bind fun v1 =>
  some (v1, A)
else
  (if x1 = (1 : Int32) then
  (ruld (A.1 84) 4920 (2 : Int32)).bind fun v2 =>
  some (v2, A)
else
  (if x1 = (2 : Int32) then
  (ruld (A.1 84) 4920 (0 : Int32)).bind fun v3 =>
  (ruld (A.1 84) 4920 (0 : Int32)).bind fun v4 =>
  (fX11_allOf v3 v4 (0 : Int32) A).bind fun v5 =>
  some (v5, A)
else
  (if x1 = (3 : Int32) then
  (fX11_allOf (0 : Int32) (5 : Int32) (0 : Int32) A).bind fun v6 =>
  some (v6, A)
else
  (if x1 = (4 : Int32) then
  (ruld (A.1 84) 4920 (3 : Int32)).bind fun v7 =>
  some (v7, A)
else
  (if x1 = (5 : Int32) then
  (ruld (A.1 84) 4920 (5 : Int32)).bind fun v8 =>
  some (v8, A)
else
  (if x1 = (6 : Int32) then
  (ruld (A.1 84) 4920 (4 : Int32)).bind fun v9 =>
  some (v9, A)
else
  (if x1 = (7 : Int32) then
  some ((A.1 83 6), A)
else
  (if x1 = (8 : Int32) then
  (ruld (A.1 84) 4920 (0 : Int32)).bind fun v10 =>
  some (v10, A)
else
  (if x1 = (9 : Int32) then
  (fX11_allOf (0 : Int32) (5 : Int32) (1 : Int32) A).bind fun v11 =>
  some (v11, A)
else
  (if x1 = (10 : Int32) then
  (fX11_allOf (0 : Int32) (5 : Int32) (2 : Int32) A).bind fun v12 =>
  some (v12, A)
else
  ruB2 (fX11_finding (-1000001 : Int32) A) fun v13 A14 =>
  some (v13, A14))))))))))))
def fX11_status_l21 {β : Type} (x1 : Int32) (A : ruA) (k55 : Int32 → Option (β)) : Nat → Int32 → Int32 → Option (β)
  | 0, _, _ => none
  | n + 1, x2, x3 =>
  (if (7 : Int32) ≤ x3 then
  k55 x2
else
  ((if x1 < 0 then
  (ruld (A.1 86) 7 x3).bind fun v3 =>
  some v3
else
  (if x1 = x3 then
  (ruld (A.1 86) 7 x3).bind fun v4 =>
  some v4
else
  some (0 : Int32)))).bind fun v2 =>
  fX11_status_l21 x1 A k55 n (x2 + v2) (x3 + (1 : Int32)))
def fX11_status (x1 : Int32) (A : ruA) : Option (Int32 × ruA) :=
  (fX11_within x1 (-1 : Int32) (6 : Int32)).bind fun v1 =>
  (if v1 = 0 then
  ruB2 (fX11_finding (-1000001 : Int32) A) fun v6 A7 =>
  some (v6, A7)
else
  fX11_status_l21 x1 A
  (fun v5 => some (v5, A)) ruF (0 : Int32) (0 : Int32))
