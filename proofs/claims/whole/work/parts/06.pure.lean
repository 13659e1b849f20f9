/-! the pure programs of the methods, by program out of the listing -/
def f_J6_bitCount (a0 : Int32) : Option (Int32) :=
  some ((((((((a0 - ((cd_ushr a0 (1 : Int32)) &&& (1431655765 : Int32))) &&& (858993459 : Int32)) + ((cd_ushr (a0 - ((cd_ushr a0 (1 : Int32)) &&& (1431655765 : Int32))) (2 : Int32)) &&& (858993459 : Int32))) + (cd_ushr (((a0 - ((cd_ushr a0 (1 : Int32)) &&& (1431655765 : Int32))) &&& (858993459 : Int32)) + ((cd_ushr (a0 - ((cd_ushr a0 (1 : Int32)) &&& (1431655765 : Int32))) (2 : Int32)) &&& (858993459 : Int32))) (4 : Int32))) &&& (252645135 : Int32)) + (cd_ushr (((((a0 - ((cd_ushr a0 (1 : Int32)) &&& (1431655765 : Int32))) &&& (858993459 : Int32)) + ((cd_ushr (a0 - ((cd_ushr a0 (1 : Int32)) &&& (1431655765 : Int32))) (2 : Int32)) &&& (858993459 : Int32))) + (cd_ushr (((a0 - ((cd_ushr a0 (1 : Int32)) &&& (1431655765 : Int32))) &&& (858993459 : Int32)) + ((cd_ushr (a0 - ((cd_ushr a0 (1 : Int32)) &&& (1431655765 : Int32))) (2 : Int32)) &&& (858993459 : Int32))) (4 : Int32))) &&& (252645135 : Int32)) (8 : Int32))) + (cd_ushr ((((((a0 - ((cd_ushr a0 (1 : Int32)) &&& (1431655765 : Int32))) &&& (858993459 : Int32)) + ((cd_ushr (a0 - ((cd_ushr a0 (1 : Int32)) &&& (1431655765 : Int32))) (2 : Int32)) &&& (858993459 : Int32))) + (cd_ushr (((a0 - ((cd_ushr a0 (1 : Int32)) &&& (1431655765 : Int32))) &&& (858993459 : Int32)) + ((cd_ushr (a0 - ((cd_ushr a0 (1 : Int32)) &&& (1431655765 : Int32))) (2 : Int32)) &&& (858993459 : Int32))) (4 : Int32))) &&& (252645135 : Int32)) + (cd_ushr (((((a0 - ((cd_ushr a0 (1 : Int32)) &&& (1431655765 : Int32))) &&& (858993459 : Int32)) + ((cd_ushr (a0 - ((cd_ushr a0 (1 : Int32)) &&& (1431655765 : Int32))) (2 : Int32)) &&& (858993459 : Int32))) + (cd_ushr (((a0 - ((cd_ushr a0 (1 : Int32)) &&& (1431655765 : Int32))) &&& (858993459 : Int32)) + ((cd_ushr (a0 - ((cd_ushr a0 (1 : Int32)) &&& (1431655765 : Int32))) (2 : Int32)) &&& (858993459 : Int32))) (4 : Int32))) &&& (252645135 : Int32)) (8 : Int32))) (16 : Int32))) &&& (63 : Int32))
def f_X0_signAt (a0 : Int32) (P : Nat → Nat → Int32) : Option (Int32) :=
  ((if a0 < 0 then
    some (-1 : Int32)
  else
    (if (P 1 0) ≤ a0 then
      some (-1 : Int32)
    else
      (if (60 : Int32) ≤ a0 then
        some (-1 : Int32)
      else
        (cd_rd (P 0) 60 a0).bind (fun v4 =>
          some v4))))).bind (fun (x1 : Int32) =>
    some x1)
def f_X5_within (a0 : Int32) (a1 : Int32) (a2 : Int32) : Option (Int32) :=
  ((if a0 < a1 then
    some (0 : Int32)
  else
    (if a2 < a0 then
      some (0 : Int32)
    else
      some (1 : Int32)))).bind (fun (x1 : Int32) =>
    (cd_zb x1).bind (fun u2 =>
      some x1))
def f_X0_digitAt (a0 : Int32) (P : Nat → Nat → Int32) : Option (Int32) :=
  (f_X0_signAt a0 P).bind (fun r1 =>
    (f_X5_within r1 (48 : Int32) (57 : Int32)).bind (fun r2 =>
      ((if r2 = 0 then
        some (-1 : Int32)
      else
        some (r1 - (48 : Int32)))).bind (fun (x3 : Int32) =>
        some x3)))
def f_X0_letterAt (a0 : Int32) (P : Nat → Nat → Int32) : Option (Int32) :=
  (f_X0_signAt a0 P).bind (fun r1 =>
    (f_X5_within r1 (97 : Int32) (108 : Int32)).bind (fun r2 =>
      ((if r2 = 0 then
        some (-1 : Int32)
      else
        some (r1 - (97 : Int32)))).bind (fun (x3 : Int32) =>
        some x3)))
def f_X0_readDraught (a0 : Int32) (P : Nat → Nat → Int32) : Option (Int32 × (Nat → Nat → Int32)) :=
  (f_X0_letterAt (a0 + (1 : Int32)) P).bind (fun r1 =>
    (f_X0_digitAt (a0 + (2 : Int32)) (cd_fld P 3 r1)).bind (fun r2 =>
      (if r1 = (-1 : Int32) then
        some ((a0 + (1 : Int32)), (cd_fld (cd_fld (cd_fld P 3 r1) 4 r2) 5 (a0 + (3 : Int32))))
      else
        ((if r2 = (-1 : Int32) then
          some (a0 + (2 : Int32))
        else
          some (-6 : Int32))).bind (fun (x4 : Int32) =>
          some (x4, (cd_fld (cd_fld (cd_fld P 3 r1) 4 r2) 5 (a0 + (3 : Int32))))))))
def f_X0_readOfCandle (a0 : Int32) (P : Nat → Nat → Int32) : Option (Int32 × (Nat → Nat → Int32)) :=
  (f_X0_letterAt a0 P).bind (fun r1 =>
    (f_X0_signAt (a0 + (1 : Int32)) (cd_fld P 3 r1)).bind (fun r2 =>
      (if r1 = (-1 : Int32) then
        some (a0, (cd_fld (cd_fld (cd_fld P 3 r1) 2 r2) 5 (a0 + (2 : Int32))))
      else
        (if r2 = (62 : Int32) then
          (f_X0_letterAt (a0 + (2 : Int32)) (cd_fld (cd_fld (cd_fld P 3 r1) 2 r2) 5 (a0 + (2 : Int32)))).bind (fun r5 =>
            ((if r5 = (-1 : Int32) then
              some (a0 + (2 : Int32))
            else
              some (-6 : Int32))).bind (fun (x6 : Int32) =>
              some (x6, (cd_fld (cd_fld (cd_fld (cd_fld (cd_fld P 3 r1) 2 r2) 5 (a0 + (2 : Int32))) 4 r5) 5 (a0 + (3 : Int32))))))
        else
          ((if r2 = (42 : Int32) then
            some (1 : Int32)
          else
            (if r2 = (45 : Int32) then
              some (1 : Int32)
            else
              (if r2 = (33 : Int32) then
                some (1 : Int32)
              else
                (if r2 = (94 : Int32) then
                  some (1 : Int32)
                else
                  some (0 : Int32)))))).bind (fun (x7 : Int32) =>
            ((if x7 = 0 then
              some (a0 + (1 : Int32))
            else
              some (-6 : Int32))).bind (fun (x8 : Int32) =>
              some (x8, (cd_fld (cd_fld (cd_fld P 3 r1) 2 r2) 5 (a0 + (2 : Int32))))))))))
def f_X0_readAct (a0 : Int32) (P : Nat → Nat → Int32) : Option (Int32 × (Nat → Nat → Int32)) :=
  (f_X0_signAt a0 P).bind (fun r1 =>
    (if r1 = (46 : Int32) then
      some ((-6 : Int32), (cd_fld (cd_fld (cd_fld (cd_fld P 2 r1) 3 (0 : Int32)) 4 (0 : Int32)) 5 (a0 + (1 : Int32))))
    else
      (if r1 = (119 : Int32) then
        (f_X0_readDraught a0 (cd_fld (cd_fld (cd_fld (cd_fld P 2 r1) 3 (0 : Int32)) 4 (0 : Int32)) 5 (a0 + (1 : Int32)))).bind (fun r4 =>
          some (r4.1, r4.2))
      else
        (f_X0_readOfCandle a0 (cd_fld (cd_fld (cd_fld (cd_fld P 2 r1) 3 (0 : Int32)) 4 (0 : Int32)) 5 (a0 + (1 : Int32)))).bind (fun r5 =>
          some (r5.1, r5.2)))))
def f_X0_firstFault_b4 (z1 : Int32 × Int32 × (Nat → Nat → Int32)) : Option (((Int32 × (Nat → Nat → Int32)) ⊕ ((Nat → Nat → Int32))) ⊕ (Int32 × Int32 × (Nat → Nat → Int32))) :=
  (if (60 : Int32) ≤ z1.2.1 then
    some (Sum.inl (Sum.inr z1.2.2))
  else
    (if (z1.2.2 1 0) ≤ z1.1 then
      some (Sum.inl (Sum.inr z1.2.2))
    else
      (f_X0_readAct z1.1 z1.2.2).bind (fun r4 =>
        (if r4.1 = (-6 : Int32) then
          some (Sum.inr ((r4.2 5 0), (z1.2.1 + (1 : Int32)), r4.2))
        else
          some (Sum.inl (Sum.inl (r4.1, r4.2)))))))
def f_X0_firstFault (P : Nat → Nat → Int32) : Option (Int32 × (Nat → Nat → Int32)) :=
  (cd_iter cd_N f_X0_firstFault_b4 ((0 : Int32), (0 : Int32), P)).bind (fun (x1 : (Int32 × (Nat → Nat → Int32)) ⊕ ((Nat → Nat → Int32))) => Sum.elim (fun r => some r) (fun (t1 : (Nat → Nat → Int32)) =>
    some ((-6 : Int32), t1)) x1)
def f_X0_write (a0 : Int32) (P : Nat → Nat → Int32) : Option (Int32 × (Nat → Nat → Int32)) :=
  (if (P 1 0) < (60 : Int32) then
    (cd_ix 60 (P 1 0)).bind (fun j2 =>
      some ((1 : Int32), (cd_fld (cd_set P 0 j2 a0) 1 ((P 1 0) + (1 : Int32)))))
  else
    some ((0 : Int32), P))
def f_X3_isLit (a0 : Int32) (T : Nat → Nat → Int32) : Option (Int32) :=
  ((if (((T 11 0) >>> (a0 &&& 31)) &&& (1 : Int32)) = 0 then
    some (0 : Int32)
  else
    some (1 : Int32))).bind (fun (x1 : Int32) =>
    (cd_zb x1).bind (fun u2 =>
      some x1))
def f_X3_dueOf (a0 : Int32) (T : Nat → Nat → Int32) : Option (Int32) :=
  (cd_rd (T 4) 12 a0).bind (fun v1 =>
    (cd_rd (T 7) 6 v1).bind (fun v2 =>
      (cd_rd (T 5) 12 a0).bind (fun v3 =>
        ((if v3 ≤ v2 then
          (cd_rd (T 5) 12 a0).bind (fun v5 =>
            some v5)
        else
          some v2)).bind (fun (x4 : Int32) =>
          some x4))))
def f_X3_reasonAgainstAsking (a0 : Int32) (T : Nat → Nat → Int32) : Option (Int32) :=
  (f_X3_isLit a0 T).bind (fun r1 =>
    (if r1 = 0 then
      some (2 : Int32)
    else
      (cd_rd (T 5) 12 a0).bind (fun v3 =>
        (if v3 = 0 then
          some (5 : Int32)
        else
          (cd_rd (T 3) 12 a0).bind (fun v5 =>
            (cd_rd (T 4) 12 a0).bind (fun v6 =>
              ((if v5 = v6 then
                some (0 : Int32)
              else
                some (1 : Int32))).bind (fun (x7 : Int32) =>
                ((if x7 = 0 then
                  some (0 : Int32)
                else
                  (cd_rd (T 3) 12 a0).bind (fun v9 =>
                    (cd_rd (T 7) 6 v9).bind (fun v10 =>
                      (f_X3_dueOf a0 T).bind (fun r11 =>
                        (if (v10 + r11) ≤ (9999 : Int32) then
                          some (0 : Int32)
                        else
                          some (6 : Int32))))))).bind (fun (x8 : Int32) =>
                  some x8))))))))
def f_X3_reasonAgainstLighting (a0 : Int32) (a1 : Int32) (T : Nat → Nat → Int32) : Option (Int32) :=
  (cd_rd (T 0) 12 a1).bind (fun v1 =>
    (if v1 = 0 then
      some (1 : Int32)
    else
      (f_X3_isLit a1 T).bind (fun r3 =>
        (if r3 = 0 then
          (f_X3_isLit a0 T).bind (fun r5 =>
            (if r5 = 0 then
              some (2 : Int32)
            else
              ((if a1 = (a0 - (1 : Int32)) then
                some (0 : Int32)
              else
                (if a1 = (a0 + (1 : Int32)) then
                  some (0 : Int32)
                else
                  some (4 : Int32)))).bind (fun (x7 : Int32) =>
                some x7)))
        else
          some (2 : Int32)))))
def f_X3_reasonAgainst (a0 : Int32) (a1 : Int32) (a2 : Int32) (T : Nat → Nat → Int32) : Option (Int32) :=
  (if a0 = (33 : Int32) then
    (f_X3_reasonAgainstAsking a1 T).bind (fun r2 =>
      some r2)
  else
    if a0 = (42 : Int32) then
      (cd_rd (T 0) 12 a1).bind (fun v3 =>
        ((if v3 = 0 then
          some (1 : Int32)
        else
          (f_X3_isLit a1 T).bind (fun r5 =>
            (if r5 = 0 then
              (if (T 12 0) = 0 then
                some (3 : Int32)
              else
                some (0 : Int32))
            else
              some (2 : Int32))))).bind (fun (x4 : Int32) =>
          some x4))
    else
      if a0 = (45 : Int32) then
        (f_X3_isLit a1 T).bind (fun r8 =>
          ((if r8 = 0 then
            some (2 : Int32)
          else
            some (0 : Int32))).bind (fun (x9 : Int32) =>
            some x9))
      else
        if a0 = (62 : Int32) then
          (f_X3_reasonAgainstLighting a1 a2 T).bind (fun r10 =>
            some r10)
        else
          if a0 = (94 : Int32) then
            (cd_rd (T 1) 12 a1).bind (fun v11 =>
              ((if v11 < (9 : Int32) then
                some (0 : Int32)
              else
                some (5 : Int32))).bind (fun (x12 : Int32) =>
                some x12))
          else
            if a0 = (119 : Int32) then
              (cd_rd (T 2) 12 a1).bind (fun v13 =>
                ((if v13 = a2 then
                  some (7 : Int32)
                else
                  some (0 : Int32))).bind (fun (x14 : Int32) =>
                  some x14))
            else
              ((if (T 13 0) < (999 : Int32) then
                some (0 : Int32)
              else
                some (8 : Int32))).bind (fun (x15 : Int32) =>
                some x15))
def f_X5_bit (a0 : Int32) : Option (Int32) :=
  some ((1 : Int32) <<< (a0 &&& 31))
def f_X3_part_b2 (a0 : Int32) (z1 : Int32 × (Nat → Nat → Int32)) : Option (((Nat → Nat → Int32)) ⊕ (Int32 × (Nat → Nat → Int32))) :=
  (if (12 : Int32) ≤ z1.1 then
    some (Sum.inl z1.2)
  else
    (cd_rd (z1.2 6) 12 z1.1).bind (fun v3 =>
      (f_X5_bit a0).bind (fun r4 =>
        (cd_ix 12 z1.1).bind (fun j5 =>
          some (Sum.inr ((z1.1 + (1 : Int32)), (cd_set z1.2 6 j5 (v3 &&& (r4 ^^^ (-1 : Int32))))))))))
def f_X3_part (a0 : Int32) (T : Nat → Nat → Int32) : Option ((Nat → Nat → Int32)) :=
  (cd_iter cd_N (f_X3_part_b2 a0) ((0 : Int32), T)).bind (fun (t1 : (Nat → Nat → Int32)) =>
    (f_X5_bit a0).bind (fun r6 =>
      (cd_ix 12 a0).bind (fun j7 =>
        some (cd_set t1 6 j7 r6))))
def f_X3_lightByMatch (a0 : Int32) (T : Nat → Nat → Int32) : Option ((Nat → Nat → Int32)) :=
  (f_X5_bit a0).bind (fun r1 =>
    (f_X3_part a0 (cd_fld (cd_fld T 12 ((T 12 0) - (1 : Int32))) 11 ((T 11 0) ||| r1))).bind (fun r2 =>
      some r2))
def f_X3_putOut (a0 : Int32) (T : Nat → Nat → Int32) : Option ((Nat → Nat → Int32)) :=
  (cd_rd (T 6) 12 a0).bind (fun v1 =>
    some (cd_fld T 11 ((T 11 0) &&& (v1 ^^^ (-1 : Int32)))))
def f_X3_pay (a0 : Int32) (T : Nat → Nat → Int32) : Option (Int32 × (Nat → Nat → Int32)) :=
  (f_X3_dueOf a0 T).bind (fun r1 =>
    (cd_rd (T 4) 12 a0).bind (fun v2 =>
      (cd_rd (T 7) 6 v2).bind (fun v3 =>
        (cd_ix 6 v2).bind (fun j4 =>
          (cd_rd (T 3) 12 a0).bind (fun v5 =>
            (cd_rd (upd (T 7) j4 (v3 - r1)) 6 v5).bind (fun v6 =>
              (cd_ix 6 v5).bind (fun j7 =>
                (cd_rd (T 5) 12 a0).bind (fun v8 =>
                  (cd_ix 12 a0).bind (fun j9 =>
                    some (r1, (cd_set (cd_set (cd_set T 7 j4 (v3 - r1)) 7 j7 (v6 + r1)) 5 j9 (v8 - r1))))))))))))
def f_X5_holds (a0 : Int32) (a1 : Int32) : Option (Int32) :=
  ((if ((a0 >>> (a1 &&& 31)) &&& (1 : Int32)) = 0 then
    some (0 : Int32)
  else
    some (1 : Int32))).bind (fun (x1 : Int32) =>
    (cd_zb x1).bind (fun u2 =>
      some x1))
def f_X3_lightFrom_b30 (v2 : Int32) (v3 : Int32) (z4 : Int32 × (Nat → Nat → Int32)) : Option (((Nat → Nat → Int32)) ⊕ (Int32 × (Nat → Nat → Int32))) :=
  (if (12 : Int32) ≤ z4.1 then
    some (Sum.inl z4.2)
  else
    (f_X5_holds (v2 ||| v3) z4.1).bind (fun r6 =>
      (if r6 = 0 then
        some (Sum.inr ((z4.1 + (1 : Int32)), z4.2))
      else
        (cd_ix 12 z4.1).bind (fun j8 =>
          some (Sum.inr ((z4.1 + (1 : Int32)), (cd_set z4.2 6 j8 (v2 ||| v3))))))))
def f_X3_lightFrom (a0 : Int32) (a1 : Int32) (T : Nat → Nat → Int32) : Option ((Nat → Nat → Int32)) :=
  (f_X5_bit a1).bind (fun r1 =>
    (cd_rd (T 6) 12 a0).bind (fun v2 =>
      (cd_rd (T 6) 12 a1).bind (fun v3 =>
        (cd_iter cd_N (f_X3_lightFrom_b30 v2 v3) ((0 : Int32), (cd_fld T 11 ((T 11 0) ||| r1)))).bind (fun (t4 : (Nat → Nat → Int32)) =>
          some t4))))
def f_X3_burnTrimmed (a0 : Int32) (a1 : Int32) (T : Nat → Nat → Int32) : Option (Int32) :=
  (cd_rd (T 2) 12 a0).bind (fun v1 =>
    ((if (1 : Int32) ≤ (((1 : Int32) + v1) - a1) then
      some (((1 : Int32) + v1) - a1)
    else
      some (1 : Int32))).bind (fun (x2 : Int32) =>
      some x2))
def f_X3_burnOf (a0 : Int32) (T : Nat → Nat → Int32) : Option (Int32) :=
  (cd_rd (T 1) 12 a0).bind (fun v1 =>
    (f_X3_burnTrimmed a0 v1 T).bind (fun r2 =>
      some r2))
def f_X3_passMinute_b14 (z1 : Int32 × Int32 × (Nat → Nat → Int32)) : Option ((Int32 × (Nat → Nat → Int32)) ⊕ (Int32 × Int32 × (Nat → Nat → Int32))) :=
  (if (12 : Int32) ≤ z1.2.1 then
    some (Sum.inl (z1.1, z1.2.2))
  else
    (f_X3_isLit z1.2.1 z1.2.2).bind (fun r3 =>
      (if r3 = 0 then
        some (Sum.inr (z1.1, (z1.2.1 + (1 : Int32)), z1.2.2))
      else
        (cd_rd (z1.2.2 0) 12 z1.2.1).bind (fun v5 =>
          (f_X3_burnOf z1.2.1 z1.2.2).bind (fun r6 =>
            (cd_ix 12 z1.2.1).bind (fun j7 =>
              (cd_rd (upd (z1.2.2 0) j7 (cd_max (0 : Int32) (v5 - r6))) 12 z1.2.1).bind (fun v8 =>
                ((if v8 = 0 then
                  (f_X5_bit z1.2.1).bind (fun r14 =>
                    some r14)
                else
                  some (0 : Int32))).bind (fun (x9 : Int32) =>
                  (cd_rd (upd (z1.2.2 0) j7 (cd_max (0 : Int32) (v5 - r6))) 12 z1.2.1).bind (fun v10 =>
                    ((if v10 = 0 then
                      some (0 : Int32)
                    else
                      (cd_rd (z1.2.2 5) 12 z1.2.1).bind (fun v13 =>
                        some v13))).bind (fun (x11 : Int32) =>
                      (cd_ix 12 z1.2.1).bind (fun j12 =>
                        some (Sum.inr ((z1.1 ||| x9), (z1.2.1 + (1 : Int32)), (cd_set (cd_set z1.2.2 0 j7 (cd_max (0 : Int32) (v5 - r6))) 5 j12 x11))))))))))))))
def f_X3_passMinute (T : Nat → Nat → Int32) : Option (Int32 × (Nat → Nat → Int32)) :=
  (cd_iter cd_N f_X3_passMinute_b14 ((0 : Int32), (0 : Int32), (cd_fld T 13 ((T 13 0) + (1 : Int32))))).bind (fun (t1 : Int32 × (Nat → Nat → Int32)) =>
    some (t1.1, (cd_fld t1.2 11 ((t1.2 11 0) &&& (t1.1 ^^^ (-1 : Int32))))))
def f_X1_noteOut_b12 (a0 : Int32) (Y : (Nat → Nat → Int32)) (z2 : Int32) : Option ((((Nat → Nat → Int32)) ⊕ (Unit)) ⊕ (Int32)) :=
  (if (12 : Int32) ≤ z2 then
    some (Sum.inl (Sum.inr ()))
  else
    (f_X5_holds a0 z2).bind (fun r4 =>
      (if r4 = 0 then
        some (Sum.inr (z2 + (1 : Int32)))
      else
        some (Sum.inl (Sum.inl (cd_fld (cd_fld Y 4 (Y 1 0)) 5 z2))))))
def f_X1_noteOut (a0 : Int32) (Y : Nat → Nat → Int32) : Option ((Nat → Nat → Int32)) :=
  (if (Y 4 0) = (-6 : Int32) then
    (cd_iter cd_N (f_X1_noteOut_b12 a0 Y) (0 : Int32)).bind (fun (x2 : ((Nat → Nat → Int32)) ⊕ (Unit)) => Sum.elim (fun r => some r) (fun (t2 : Unit) =>
      some Y) x2)
  else
    some Y)
def f_X1_attempt (a0 : Int32) (a1 : Int32) (a2 : Int32) (Y : Nat → Nat → Int32) (S : Nat → Nat → Int32) : Option (Int32 × (Nat → Nat → Int32) × (Nat → Nat → Int32)) :=
  (f_X3_reasonAgainst a0 a1 a2 S).bind (fun r1 =>
    (if r1 = 0 then
      ((if a0 = (33 : Int32) then
        (f_X3_pay a1 S).bind (fun r4 =>
          some ((cd_fld (cd_fld Y 2 r1) 3 ((Y 3 0) + r4.1)), r4.2))
      else
        if a0 = (42 : Int32) then
          (f_X3_lightByMatch a1 S).bind (fun r5 =>
            some ((cd_fld Y 2 r1), r5))
        else
          if a0 = (45 : Int32) then
            (f_X3_putOut a1 S).bind (fun r6 =>
              some ((cd_fld Y 2 r1), r6))
          else
            if a0 = (62 : Int32) then
              (f_X3_lightFrom a1 a2 S).bind (fun r7 =>
                some ((cd_fld Y 2 r1), r7))
            else
              if a0 = (94 : Int32) then
                (cd_rd (S 1) 12 a1).bind (fun v8 =>
                  (cd_ix 12 a1).bind (fun j9 =>
                    some ((cd_fld Y 2 r1), (cd_set S 1 j9 (v8 + (1 : Int32))))))
              else
                if a0 = (119 : Int32) then
                  (cd_ix 12 a1).bind (fun j10 =>
                    some ((cd_fld Y 2 r1), (cd_set S 2 j10 a2)))
                else
                  (f_X3_passMinute S).bind (fun r11 =>
                    (f_X1_noteOut r11.1 (cd_fld Y 2 r1)).bind (fun r12 =>
                      some (r12, r11.2))))).bind (fun (x3 : (Nat → Nat → Int32) × (Nat → Nat → Int32)) =>
        some ((1 : Int32), (cd_fld x3.1 1 ((x3.1 1 0) + (1 : Int32))), x3.2))
    else
      some ((0 : Int32), (cd_fld Y 2 r1), S)))
def f_X3_copyFrom (T : Nat → Nat → Int32) (T2 : Nat → Nat → Int32) : Option ((Nat → Nat → Int32)) :=
  some (cd_fld (cd_fld (cd_fld (cd_fld (cd_cpy (cd_cpy (cd_cpy (cd_cpy (cd_cpy (cd_cpy (cd_cpy (cd_cpy (cd_cpy (cd_cpy T 0 T2 12) 1 T2 12) 2 T2 12) 3 T2 12) 4 T2 12) 5 T2 12) 6 T2 12) 7 T2 6) 8 T2 8) 9 T2 8) 10 (T2 10 0)) 11 (T2 11 0)) 12 (T2 12 0)) 13 (T2 13 0))
def f_X1_begin (Y : Nat → Nat → Int32) (S : Nat → Nat → Int32) (T : Nat → Nat → Int32) : Option ((Nat → Nat → Int32) × (Nat → Nat → Int32)) :=
  (f_X3_copyFrom S T).bind (fun r1 =>
    some ((cd_fld (cd_fld (cd_fld (cd_fld (cd_fld Y 1 (0 : Int32)) 2 (0 : Int32)) 3 (0 : Int32)) 4 (-6 : Int32)) 5 (-6 : Int32)), r1))
def f_X5_isCandle (a0 : Int32) : Option (Int32) :=
  (f_X5_within a0 (0 : Int32) (11 : Int32)).bind (fun r1 =>
    (cd_zb r1).bind (fun u2 =>
      some r1))
def f_X1_draws_b11 (a1 : Int32) (z2 : Int32 × Int32 × (Nat → Nat → Int32) × (Nat → Nat → Int32)) : Option (((Nat → Nat → Int32) × (Nat → Nat → Int32)) ⊕ (Int32 × Int32 × (Nat → Nat → Int32) × (Nat → Nat → Int32))) :=
  (if a1 ≤ z2.2.1 then
    some (Sum.inl (z2.2.2.1, z2.2.2.2))
  else
    (cd_rd cd_dk 8 (((((75 : Int32) * z2.1) + (74 : Int32)) - (((75 : Int32) * z2.1) + (74 : Int32)) / (65537 : Int32) * (65537 : Int32)) - ((((75 : Int32) * z2.1) + (74 : Int32)) - (((75 : Int32) * z2.1) + (74 : Int32)) / (65537 : Int32) * (65537 : Int32)) / (8 : Int32) * (8 : Int32))).bind (fun v4 =>
      ((if v4 = (62 : Int32) then
        some (((((((75 : Int32) * z2.1) + (74 : Int32)) - (((75 : Int32) * z2.1) + (74 : Int32)) / (65537 : Int32) * (65537 : Int32)) / (8 : Int32)) - (((((75 : Int32) * z2.1) + (74 : Int32)) - (((75 : Int32) * z2.1) + (74 : Int32)) / (65537 : Int32) * (65537 : Int32)) / (8 : Int32)) / (12 : Int32) * (12 : Int32)) + (1 : Int32))
      else
        some ((((((75 : Int32) * z2.1) + (74 : Int32)) - (((75 : Int32) * z2.1) + (74 : Int32)) / (65537 : Int32) * (65537 : Int32)) / (96 : Int32)) - (((((75 : Int32) * z2.1) + (74 : Int32)) - (((75 : Int32) * z2.1) + (74 : Int32)) / (65537 : Int32) * (65537 : Int32)) / (96 : Int32)) / (10 : Int32) * (10 : Int32)))).bind (fun (x5 : Int32) =>
        (if v4 = (62 : Int32) then
          (f_X5_isCandle x5).bind (fun r7 =>
            (if r7 = 0 then
              some (Sum.inr (((((75 : Int32) * z2.1) + (74 : Int32)) - (((75 : Int32) * z2.1) + (74 : Int32)) / (65537 : Int32) * (65537 : Int32)), (z2.2.1 + (1 : Int32)), z2.2.2.1, z2.2.2.2))
            else
              (f_X1_attempt v4 ((((((75 : Int32) * z2.1) + (74 : Int32)) - (((75 : Int32) * z2.1) + (74 : Int32)) / (65537 : Int32) * (65537 : Int32)) / (8 : Int32)) - (((((75 : Int32) * z2.1) + (74 : Int32)) - (((75 : Int32) * z2.1) + (74 : Int32)) / (65537 : Int32) * (65537 : Int32)) / (8 : Int32)) / (12 : Int32) * (12 : Int32)) x5 z2.2.2.1 z2.2.2.2).bind (fun r9 =>
                some (Sum.inr (((((75 : Int32) * z2.1) + (74 : Int32)) - (((75 : Int32) * z2.1) + (74 : Int32)) / (65537 : Int32) * (65537 : Int32)), (z2.2.1 + (1 : Int32)), r9.2.1, r9.2.2)))))
        else
          (f_X1_attempt v4 ((((((75 : Int32) * z2.1) + (74 : Int32)) - (((75 : Int32) * z2.1) + (74 : Int32)) / (65537 : Int32) * (65537 : Int32)) / (8 : Int32)) - (((((75 : Int32) * z2.1) + (74 : Int32)) - (((75 : Int32) * z2.1) + (74 : Int32)) / (65537 : Int32) * (65537 : Int32)) / (8 : Int32)) / (12 : Int32) * (12 : Int32)) x5 z2.2.2.1 z2.2.2.2).bind (fun r10 =>
            some (Sum.inr (((((75 : Int32) * z2.1) + (74 : Int32)) - (((75 : Int32) * z2.1) + (74 : Int32)) / (65537 : Int32) * (65537 : Int32)), (z2.2.1 + (1 : Int32)), r10.2.1, r10.2.2)))))))
def f_X1_draws (a0 : Int32) (a1 : Int32) (Y : Nat → Nat → Int32) (S : Nat → Nat → Int32) (T : Nat → Nat → Int32) : Option ((Nat → Nat → Int32) × (Nat → Nat → Int32)) :=
  (f_X1_begin Y S T).bind (fun r1 =>
    (cd_iter cd_N (f_X1_draws_b11 a1) (a0, (0 : Int32), r1.1, r1.2)).bind (fun (t2 : (Nat → Nat → Int32) × (Nat → Nat → Int32)) =>
      some (t2.1, t2.2)))
def f_X1_night_b10 (z2 : Int32 × Int32 × (Nat → Nat → Int32) × (Nat → Nat → Int32) × (Nat → Nat → Int32)) : Option (((Int32 × (Nat → Nat → Int32) × (Nat → Nat → Int32) × (Nat → Nat → Int32)) ⊕ ((Nat → Nat → Int32) × (Nat → Nat → Int32) × (Nat → Nat → Int32))) ⊕ (Int32 × Int32 × (Nat → Nat → Int32) × (Nat → Nat → Int32) × (Nat → Nat → Int32))) :=
  (if (60 : Int32) ≤ z2.2.1 then
    some (Sum.inl (Sum.inr (z2.2.2.1, z2.2.2.2.1, z2.2.2.2.2)))
  else
    (if (z2.2.2.2.2 1 0) ≤ z2.1 then
      some (Sum.inl (Sum.inr (z2.2.2.1, z2.2.2.2.1, z2.2.2.2.2)))
    else
      (f_X0_readAct z2.1 z2.2.2.2.2).bind (fun r5 =>
        (if r5.1 = (-6 : Int32) then
          (f_X1_attempt (r5.2 2 0) (r5.2 3 0) (r5.2 4 0) z2.2.2.1 z2.2.2.2.1).bind (fun r7 =>
            (if r7.1 = 0 then
              some (Sum.inl (Sum.inl ((0 : Int32), r7.2.1, r7.2.2, r5.2)))
            else
              some (Sum.inr ((r5.2 5 0), (z2.2.1 + (1 : Int32)), r7.2.1, r7.2.2, r5.2))))
        else
          some (Sum.inl (Sum.inl ((0 : Int32), z2.2.2.1, z2.2.2.2.1, r5.2)))))))
def f_X1_night (Y : Nat → Nat → Int32) (S : Nat → Nat → Int32) (T : Nat → Nat → Int32) (P : Nat → Nat → Int32) : Option (Int32 × (Nat → Nat → Int32) × (Nat → Nat → Int32) × (Nat → Nat → Int32)) :=
  (f_X1_begin Y S T).bind (fun r1 =>
    (cd_iter cd_N f_X1_night_b10 ((0 : Int32), (0 : Int32), r1.1, r1.2, P)).bind (fun (x2 : (Int32 × (Nat → Nat → Int32) × (Nat → Nat → Int32) × (Nat → Nat → Int32)) ⊕ ((Nat → Nat → Int32) × (Nat → Nat → Int32) × (Nat → Nat → Int32))) => Sum.elim (fun r => some r) (fun (t2 : (Nat → Nat → Int32) × (Nat → Nat → Int32) × (Nat → Nat → Int32)) =>
      some ((1 : Int32), t2.1, t2.2.1, t2.2.2)) x2))
def f_X2_countOf (a0 : Int32) (Z : Nat → Nat → Int32) : Option (Int32) :=
  (cd_rd (Z 1) 48 a0).bind (fun v1 =>
    (cd_rd (Z 0) 48 a0).bind (fun v2 =>
      some (cd_max (0 : Int32) ((v1 - v2) + (1 : Int32)))))
def f_X2_atWindow_b15 (a0 : Int32) (Z : (Nat → Nat → Int32)) (z1 : Int32 × Int32) (z3 : Int32 × Int32) : Option (((Int32) ⊕ (Int32)) ⊕ (Int32 × Int32)) :=
  (if (4 : Int32) ≤ z3.2 then
    some (Sum.inl (Sum.inr z3.1))
  else
    (cd_rd (Z 0) 48 ((a0 * (4 : Int32)) + z3.2)).bind (fun v5 =>
      (cd_rd (Z 1) 48 ((a0 * (4 : Int32)) + z3.2)).bind (fun v6 =>
        (f_X5_within z1.2 v5 v6).bind (fun r7 =>
          (if r7 = 0 then
            some (Sum.inr (z3.1, (z3.2 + (1 : Int32))))
          else
            (if z3.1 = 0 then
              some (Sum.inl (Sum.inl ((((1000 : Int32) * a0) + ((10 : Int32) * z1.2)) + z3.2)))
            else
              some (Sum.inr ((z3.1 + (-1 : Int32)), (z3.2 + (1 : Int32))))))))))
def f_X2_atWindow_b5 (a0 : Int32) (Z : (Nat → Nat → Int32)) (z1 : Int32 × Int32) : Option (((Int32) ⊕ (Unit)) ⊕ (Int32 × Int32)) :=
  (if (60 : Int32) < z1.2 then
    some (Sum.inl (Sum.inr ()))
  else
    (cd_iter cd_N (f_X2_atWindow_b15 a0 Z z1) (z1.1, (0 : Int32))).bind (fun (x3 : (Int32) ⊕ (Int32)) => Sum.elim (fun r => some (Sum.inl (Sum.inl r))) (fun (t3 : Int32) =>
      some (Sum.inr (t3, (z1.2 + (1 : Int32))))) x3))
def f_X2_atWindow (a0 : Int32) (a1 : Int32) (Z : Nat → Nat → Int32) : Option (Int32) :=
  (cd_iter cd_N (f_X2_atWindow_b5 a0 Z) (a1, (0 : Int32))).bind (fun (x1 : (Int32) ⊕ (Unit)) => Sum.elim (fun r => some r) (fun (t1 : Unit) =>
    some (-6 : Int32)) x1)
def f_X2_at_b20 (Z : (Nat → Nat → Int32)) (z1 : Int32 × Int32) (z4 : Int32 × Int32) : Option ((Int32) ⊕ (Int32 × Int32)) :=
  (if (4 : Int32) ≤ z4.2 then
    some (Sum.inl z4.1)
  else
    (f_X2_countOf ((z1.2 * (4 : Int32)) + z4.2) Z).bind (fun r6 =>
      some (Sum.inr ((z4.1 + r6), (z4.2 + (1 : Int32))))))
def f_X2_at_b4 (Z : (Nat → Nat → Int32)) (z1 : Int32 × Int32) : Option (((Int32) ⊕ (Unit)) ⊕ (Int32 × Int32)) :=
  (if (12 : Int32) ≤ z1.2 then
    some (Sum.inl (Sum.inr ()))
  else
    (if z1.1 < 0 then
      some (Sum.inl (Sum.inr ()))
    else
      (cd_iter cd_N (f_X2_at_b20 Z z1) ((0 : Int32), (0 : Int32))).bind (fun (t4 : Int32) =>
        (if t4 ≤ z1.1 then
          some (Sum.inr ((z1.1 - t4), (z1.2 + (1 : Int32))))
        else
          (f_X2_atWindow z1.2 z1.1 Z).bind (fun r8 =>
            some (Sum.inl (Sum.inl r8)))))))
def f_X2_at (a0 : Int32) (Z : Nat → Nat → Int32) : Option (Int32) :=
  (cd_iter cd_N (f_X2_at_b4 Z) (a0, (0 : Int32))).bind (fun (x1 : (Int32) ⊕ (Unit)) => Sum.elim (fun r => some r) (fun (t1 : Unit) =>
    some (-6 : Int32)) x1)
def f_X3_minutesLeftTrimmed (a0 : Int32) (a1 : Int32) (T : Nat → Nat → Int32) : Option (Int32) :=
  (f_X3_burnTrimmed a0 a1 T).bind (fun r1 =>
    (cd_rd (T 0) 12 a0).bind (fun v2 =>
      (cd_nz r1).bind (fun u3 =>
        some (((v2 + r1) - (1 : Int32)) / r1))))
def f_X3_minutesLeft (a0 : Int32) (T : Nat → Nat → Int32) : Option (Int32) :=
  (cd_rd (T 1) 12 a0).bind (fun v1 =>
    (f_X3_minutesLeftTrimmed a0 v1 T).bind (fun r2 =>
      some r2))
def f_X2_earliestFor (a0 : Int32) (a1 : Int32) (T : Nat → Nat → Int32) : Option (Int32) :=
  (cd_rd (T 0) 12 a0).bind (fun v1 =>
    (if a1 = v1 then
      (f_X3_minutesLeft a0 T).bind (fun r3 =>
        some r3)
    else
      (f_X3_burnOf a0 T).bind (fun r4 =>
        (cd_rd (T 0) 12 a0).bind (fun v5 =>
          ((if v5 ≤ a1 then
            some (61 : Int32)
          else
            (cd_nz r4).bind (fun u7 =>
              (if (a1 - a1 / r4 * r4) = 0 then
                (cd_nz r4).bind (fun u9 =>
                  some (a1 / r4))
              else
                some (61 : Int32))))).bind (fun (x6 : Int32) =>
            some x6)))))
def f_X2_reaches (a0 : Int32) (a1 : Int32) : Option (Int32) :=
  ((if (a0 - a0 / (4 : Int32) * (4 : Int32)) < (cd_abs (a1 - (a0 / (4 : Int32)))) then
    some (0 : Int32)
  else
    some (1 : Int32))).bind (fun (x1 : Int32) =>
    (cd_zb x1).bind (fun u2 =>
      some x1))
def f_X2_narrow (a0 : Int32) (a1 : Int32) (a2 : Int32) (Z : Nat → Nat → Int32) (T : Nat → Nat → Int32) : Option ((Nat → Nat → Int32)) :=
  (f_X2_earliestFor a1 a2 T).bind (fun r1 =>
    (cd_rd (T 0) 12 a1).bind (fun v2 =>
      ((if a2 = v2 then
        some (1 : Int32)
      else
        some (0 : Int32))).bind (fun (x3 : Int32) =>
        ((if x3 = 0 then
          some r1
        else
          some (60 : Int32))).bind (fun (x4 : Int32) =>
          (f_X2_reaches a0 a1).bind (fun r5 =>
            ((if r5 = 0 then
              (if (60 : Int32) < r1 then
                (cd_ix 48 a0).bind (fun j8 =>
                  some (cd_set Z 1 j8 (-1 : Int32)))
              else
                (if (60 : Int32) ≤ x4 then
                  some Z
                else
                  (cd_ix 48 a0).bind (fun j10 =>
                    some (cd_set Z 1 j10 (-1 : Int32)))))
            else
              (cd_rd (Z 0) 48 a0).bind (fun v11 =>
                (cd_ix 48 a0).bind (fun j12 =>
                  (cd_rd (Z 1) 48 a0).bind (fun v13 =>
                    (cd_ix 48 a0).bind (fun j14 =>
                      some (cd_set (cd_set Z 0 j12 (cd_max v11 r1)) 1 j14 (cd_min v13 x4)))))))).bind (fun (x6 : (Nat → Nat → Int32)) =>
              some x6))))))
def f_X2_fit_b25 (T : (Nat → Nat → Int32)) (z1 : Int32 × (Nat → Nat → Int32)) (z5 : Int32 × (Nat → Nat → Int32)) : Option (((Nat → Nat → Int32)) ⊕ (Int32 × (Nat → Nat → Int32))) :=
  (if (T 10 0) ≤ z5.1 then
    some (Sum.inl z5.2)
  else
    (if (8 : Int32) ≤ z5.1 then
      some (Sum.inl z5.2)
    else
      (cd_rd (T 8) 8 z5.1).bind (fun v8 =>
        (cd_rd (T 9) 8 z5.1).bind (fun v9 =>
          (f_X2_narrow z1.1 v8 v9 z5.2 T).bind (fun r10 =>
            some (Sum.inr ((z5.1 + (1 : Int32)), r10)))))))
def f_X2_fit_b2 (T : (Nat → Nat → Int32)) (z1 : Int32 × (Nat → Nat → Int32)) : Option (((Nat → Nat → Int32)) ⊕ (Int32 × (Nat → Nat → Int32))) :=
  (if (48 : Int32) ≤ z1.1 then
    some (Sum.inl z1.2)
  else
    (cd_ix 48 z1.1).bind (fun j3 =>
      (cd_ix 48 z1.1).bind (fun j4 =>
        (cd_iter cd_N (f_X2_fit_b25 T z1) ((0 : Int32), (cd_set (cd_set z1.2 0 j3 (0 : Int32)) 1 j4 (60 : Int32)))).bind (fun (t5 : (Nat → Nat → Int32)) =>
          some (Sum.inr ((z1.1 + (1 : Int32)), t5))))))
def f_X2_fit (Z : Nat → Nat → Int32) (T : Nat → Nat → Int32) : Option ((Nat → Nat → Int32)) :=
  (cd_iter cd_N (f_X2_fit_b2 T) ((0 : Int32), Z)).bind (fun (t1 : (Nat → Nat → Int32)) =>
    some t1)
def f_X2_howMany_b4 (Z : (Nat → Nat → Int32)) (z1 : Int32 × Int32) : Option ((Int32) ⊕ (Int32 × Int32)) :=
  (if (48 : Int32) ≤ z1.2 then
    some (Sum.inl z1.1)
  else
    (f_X2_countOf z1.2 Z).bind (fun r3 =>
      some (Sum.inr ((z1.1 + r3), (z1.2 + (1 : Int32))))))
def f_X2_howMany (Z : Nat → Nat → Int32) : Option (Int32) :=
  (cd_iter cd_N (f_X2_howMany_b4 Z) ((0 : Int32), (0 : Int32))).bind (fun (t1 : Int32) =>
    some t1)
def f_X2_mostLeft_b2 (z1 : Int32 × (Nat → Nat → Int32)) : Option (((Nat → Nat → Int32)) ⊕ (Int32 × (Nat → Nat → Int32))) :=
  (if (62 : Int32) ≤ z1.1 then
    some (Sum.inl z1.2)
  else
    (cd_ix 62 z1.1).bind (fun j3 =>
      some (Sum.inr ((z1.1 + (1 : Int32)), (cd_set z1.2 2 j3 (0 : Int32))))))
def f_X2_mostLeft_b38 (a0 : Int32) (z5 : Int32 × Int32 × (Nat → Nat → Int32)) : Option ((Int32 × (Nat → Nat → Int32)) ⊕ (Int32 × Int32 × (Nat → Nat → Int32))) :=
  (if (48 : Int32) ≤ z5.2.1 then
    some (Sum.inl (z5.1, z5.2.2))
  else
    (f_X2_reaches z5.2.1 a0).bind (fun r7 =>
      (if r7 = 0 then
        (f_X2_countOf z5.2.1 z5.2.2).bind (fun r9 =>
          some (Sum.inr ((z5.1 + r9), (z5.2.1 + (1 : Int32)), z5.2.2)))
      else
        (f_X2_countOf z5.2.1 z5.2.2).bind (fun r10 =>
          (if r10 ≤ 0 then
            some (Sum.inr (z5.1, (z5.2.1 + (1 : Int32)), z5.2.2))
          else
            (cd_rd (z5.2.2 0) 48 z5.2.1).bind (fun v12 =>
              (cd_rd (z5.2.2 2) 62 v12).bind (fun v13 =>
                (cd_ix 62 v12).bind (fun j14 =>
                  (cd_rd (z5.2.2 1) 48 z5.2.1).bind (fun v15 =>
                    (cd_rd (upd (z5.2.2 2) j14 (v13 + (1 : Int32))) 62 (v15 + (1 : Int32))).bind (fun v16 =>
                      (cd_ix 62 (v15 + (1 : Int32))).bind (fun j17 =>
                        some (Sum.inr (z5.1, (z5.2.1 + (1 : Int32)), (cd_set (cd_set z5.2.2 2 j14 (v13 + (1 : Int32))) 2 j17 (v16 - (1 : Int32))))))))))))))))
def f_X2_mostLeft_b126 (r4 : Int32) (t5 : Int32 × (Nat → Nat → Int32)) (z18 : Int32 × Int32 × Int32 × Int32) : Option ((Int32 × Int32) ⊕ (Int32 × Int32 × Int32 × Int32)) :=
  (if (60 : Int32) < z18.2.2.2 then
    some (Sum.inl (z18.1, z18.2.1))
  else
    (cd_rd (t5.2 2) 62 z18.2.2.2).bind (fun v20 =>
      (if (cd_min (60 : Int32) r4) ≤ z18.2.2.2 then
        some (Sum.inr ((z18.1 + (z18.2.2.1 + v20)), z18.2.1, (z18.2.2.1 + v20), (z18.2.2.2 + (1 : Int32))))
      else
        some (Sum.inr (z18.1, (cd_max z18.2.1 (z18.2.2.1 + v20)), (z18.2.2.1 + v20), (z18.2.2.2 + (1 : Int32)))))))
def f_X2_mostLeft (a0 : Int32) (Z : Nat → Nat → Int32) (T : Nat → Nat → Int32) : Option (Int32 × (Nat → Nat → Int32)) :=
  (cd_iter cd_N f_X2_mostLeft_b2 ((0 : Int32), Z)).bind (fun (t1 : (Nat → Nat → Int32)) =>
    (f_X3_minutesLeft a0 T).bind (fun r4 =>
      (cd_iter cd_N (f_X2_mostLeft_b38 a0) ((0 : Int32), (0 : Int32), t1)).bind (fun (t5 : Int32 × (Nat → Nat → Int32)) =>
        (cd_iter cd_N (f_X2_mostLeft_b126 r4 t5) (t5.1, (0 : Int32), (0 : Int32), (0 : Int32))).bind (fun (t18 : Int32 × Int32) =>
          some ((cd_max t18.2 t18.1), t5.2)))))
def f_X3_addSight (a0 : Int32) (a1 : Int32) (T : Nat → Nat → Int32) : Option (Int32 × (Nat → Nat → Int32)) :=
  (if (T 10 0) < (8 : Int32) then
    (cd_ix 8 (T 10 0)).bind (fun j2 =>
      (cd_ix 8 (T 10 0)).bind (fun j3 =>
        some ((1 : Int32), (cd_fld (cd_set (cd_set T 8 j2 a0) 9 j3 a1) 10 ((T 10 0) + (1 : Int32))))))
  else
    some ((0 : Int32), T))
def f_X3_canBeAsked (a0 : Int32) (T : Nat → Nat → Int32) : Option (Int32) :=
  (f_X3_isLit a0 T).bind (fun r1 =>
    ((if r1 = 0 then
      some (0 : Int32)
    else
      (cd_rd (T 5) 12 a0).bind (fun v4 =>
        (if v4 ≤ 0 then
          some (0 : Int32)
        else
          some (1 : Int32))))).bind (fun (x2 : Int32) =>
      (cd_zb x2).bind (fun u3 =>
        some x2)))
def f_X3_outlasts (a0 : Int32) (a1 : Int32) (T : Nat → Nat → Int32) : Option (Int32) :=
  (f_X3_isLit a0 T).bind (fun r1 =>
    ((if r1 = 0 then
      some (0 : Int32)
    else
      (f_X3_minutesLeft a0 T).bind (fun r4 =>
        (if r4 ≤ a1 then
          some (0 : Int32)
        else
          some (1 : Int32))))).bind (fun (x2 : Int32) =>
      (cd_zb x2).bind (fun u3 =>
        some x2)))
def f_X3_howManyOutlast_b4 (a0 : Int32) (T : (Nat → Nat → Int32)) (z1 : Int32 × Int32) : Option ((Int32) ⊕ (Int32 × Int32)) :=
  (if (12 : Int32) ≤ z1.2 then
    some (Sum.inl z1.1)
  else
    (f_X3_outlasts z1.2 a0 T).bind (fun r3 =>
      ((if r3 = 0 then
        some (0 : Int32)
      else
        some (1 : Int32))).bind (fun (x4 : Int32) =>
        some (Sum.inr ((z1.1 + x4), (z1.2 + (1 : Int32)))))))
def f_X3_howManyOutlast (a0 : Int32) (T : Nat → Nat → Int32) : Option (Int32) :=
  (cd_iter cd_N (f_X3_howManyOutlast_b4 a0 T) ((0 : Int32), (0 : Int32))).bind (fun (t1 : Int32) =>
    some t1)
def f_X3_place (a0 : Int32) (a1 : Int32) (a2 : Int32) (a3 : Int32) (a4 : Int32) (T : Nat → Nat → Int32) : Option ((Nat → Nat → Int32)) :=
  (cd_ix 12 a0).bind (fun j1 =>
    (cd_ix 12 a0).bind (fun j2 =>
      (cd_ix 12 a0).bind (fun j3 =>
        (cd_ix 12 a0).bind (fun j4 =>
          (cd_ix 12 a0).bind (fun j5 =>
            (f_X5_bit a0).bind (fun r6 =>
              (f_X3_part a0 (cd_fld (cd_set (cd_set (cd_set (cd_set (cd_set T 0 j1 a1) 3 j2 a2) 4 j3 a3) 5 j4 a4) 1 j5 (0 : Int32)) 11 ((T 11 0) &&& (r6 ^^^ (-1 : Int32))))).bind (fun r7 =>
                some r7)))))))
def f_X3_waxOfAll_b4 (T : (Nat → Nat → Int32)) (z1 : Int32 × Int32) : Option ((Int32) ⊕ (Int32 × Int32)) :=
  (if (12 : Int32) ≤ z1.2 then
    some (Sum.inl z1.1)
  else
    (cd_rd (T 0) 12 z1.2).bind (fun v3 =>
      some (Sum.inr ((z1.1 + v3), (z1.2 + (1 : Int32))))))
def f_X3_waxOfAll (T : Nat → Nat → Int32) : Option (Int32) :=
  (cd_iter cd_N (f_X3_waxOfAll_b4 T) ((0 : Int32), (0 : Int32))).bind (fun (t1 : Int32) =>
    some t1)
def f_X4_inTime (a0 : Int32) (a1 : Int32) (V : Nat → Nat → Int32) : Option (Int32) :=
  (cd_rd (V 0) 12 a0).bind (fun v1 =>
    ((if v1 ≤ a1 then
      some (1000000 : Int32)
    else
      some a1)).bind (fun (x2 : Int32) =>
      some x2))
def f_X4_fewestOfLength_b5 (a0 : Int32) (V : (Nat → Nat → Int32)) (z1 : Int32 × Int32) : Option ((Int32) ⊕ (Int32 × Int32)) :=
  (if (12 : Int32) < (z1.2 + a0) then
    some (Sum.inl z1.1)
  else
    ((if (V 3 0) < z1.2 then
      some (0 : Int32)
    else
      (if ((z1.2 + a0) - (1 : Int32)) < (V 4 0) then
        some (0 : Int32)
      else
        some (1 : Int32)))).bind (fun (x3 : Int32) =>
      (if x3 = 0 then
        some (Sum.inr (z1.1, (z1.2 + (1 : Int32))))
      else
        (cd_rd (V 1) 12 z1.2).bind (fun v5 =>
          (cd_rd (V 2) 12 z1.2).bind (fun v6 =>
            some (Sum.inr ((cd_min z1.1 (cd_min v5 v6)), (z1.2 + (1 : Int32)))))))))
def f_X4_fewestOfLength (a0 : Int32) (V : Nat → Nat → Int32) : Option (Int32) :=
  (cd_iter cd_N (f_X4_fewestOfLength_b5 a0 V) ((1000000 : Int32), (0 : Int32))).bind (fun (t1 : Int32) =>
    some t1)
def f_X4_lengthenTo_b6 (a0 : Int32) (z1 : Int32 × (Nat → Nat → Int32)) : Option (((Nat → Nat → Int32)) ⊕ (Int32 × (Nat → Nat → Int32))) :=
  (if (12 : Int32) ≤ (z1.1 + (a0 - (1 : Int32))) then
    some (Sum.inl z1.2)
  else
    (cd_rd (z1.2 1) 12 (z1.1 + (1 : Int32))).bind (fun v3 =>
      (cd_rd (z1.2 2) 12 (z1.1 + (1 : Int32))).bind (fun v4 =>
        (cd_rd (z1.2 2) 12 z1.1).bind (fun v5 =>
          (cd_rd (z1.2 1) 12 z1.1).bind (fun v6 =>
            (f_X4_inTime z1.1 (cd_min (v3 + (1 : Int32)) (v4 + (a0 - (1 : Int32)))) z1.2).bind (fun r7 =>
              (cd_ix 12 z1.1).bind (fun j8 =>
                (f_X4_inTime (z1.1 + (a0 - (1 : Int32))) (cd_min (v5 + (1 : Int32)) (v6 + (a0 - (1 : Int32)))) (cd_set z1.2 1 j8 r7)).bind (fun r9 =>
                  (cd_ix 12 z1.1).bind (fun j10 =>
                    some (Sum.inr ((z1.1 + (1 : Int32)), (cd_set (cd_set z1.2 1 j8 r7) 2 j10 r9))))))))))))
def f_X4_lengthenTo (a0 : Int32) (V : Nat → Nat → Int32) : Option ((Nat → Nat → Int32)) :=
  (cd_iter cd_N (f_X4_lengthenTo_b6 a0) ((0 : Int32), V)).bind (fun (t1 : (Nat → Nat → Int32)) =>
    some t1)
def f_X4_fewestMinutes_b17 (z3 : Int32 × (Nat → Nat → Int32)) : Option (((Nat → Nat → Int32)) ⊕ (Int32 × (Nat → Nat → Int32))) :=
  (if (12 : Int32) ≤ z3.1 then
    some (Sum.inl z3.2)
  else
    (cd_ix 12 z3.1).bind (fun j5 =>
      (cd_ix 12 z3.1).bind (fun j6 =>
        some (Sum.inr ((z3.1 + (1 : Int32)), (cd_set (cd_set z3.2 1 j5 (1000000 : Int32)) 2 j6 (1000000 : Int32)))))))
def f_X4_fewestMinutes_b89 (z9 : Int32 × Int32 × (Nat → Nat → Int32)) : Option ((Int32 × (Nat → Nat → Int32)) ⊕ (Int32 × Int32 × (Nat → Nat → Int32))) :=
  (if (12 : Int32) < z9.2.1 then
    some (Sum.inl (z9.1, z9.2.2))
  else
    (f_X4_lengthenTo z9.2.1 z9.2.2).bind (fun r11 =>
      (f_X4_fewestOfLength z9.2.1 r11).bind (fun r12 =>
        some (Sum.inr ((cd_min z9.1 r12), (z9.2.1 + (1 : Int32)), r11)))))
def f_X4_fewestMinutes (a0 : Int32) (a1 : Int32) (V : Nat → Nat → Int32) : Option (Int32 × (Nat → Nat → Int32)) :=
  (f_X5_isCandle (a0 + a1)).bind (fun r1 =>
    (if r1 = 0 then
      some ((1000000 : Int32), V)
    else
      (cd_iter cd_N f_X4_fewestMinutes_b17 ((0 : Int32), V)).bind (fun (t3 : (Nat → Nat → Int32)) =>
        ((if 0 ≤ a1 then
          (f_X4_inTime (a0 + a1) (1 : Int32) t3).bind (fun r13 =>
            (cd_ix 12 a0).bind (fun j14 =>
              some (cd_set t3 2 j14 r13)))
        else
          (f_X4_inTime (a0 + a1) (1 : Int32) t3).bind (fun r15 =>
            (cd_ix 12 (a0 + a1)).bind (fun j16 =>
              some (cd_set t3 1 j16 r15))))).bind (fun (x7 : (Nat → Nat → Int32)) =>
          (f_X4_fewestOfLength (2 : Int32) x7).bind (fun r8 =>
            (cd_iter cd_N f_X4_fewestMinutes_b89 (r8, (3 : Int32), x7)).bind (fun (t9 : Int32 × (Nat → Nat → Int32)) =>
              some (t9.1, t9.2)))))))
def f_X4_isNeeded_b12 (T : (Nat → Nat → Int32)) (z1 : Int32 × (Nat → Nat → Int32)) : Option (((Nat → Nat → Int32)) ⊕ (Int32 × (Nat → Nat → Int32))) :=
  (if (12 : Int32) ≤ z1.1 then
    some (Sum.inl z1.2)
  else
    (f_X3_canBeAsked z1.1 T).bind (fun r3 =>
      ((if r3 = 0 then
        some (1000000 : Int32)
      else
        (f_X3_minutesLeft z1.1 T).bind (fun r8 =>
          some r8))).bind (fun (x4 : Int32) =>
        (cd_ix 12 z1.1).bind (fun j5 =>
          ((if r3 = 0 then
            some (z1.2 3 0)
          else
            some (cd_min (z1.2 3 0) z1.1))).bind (fun (x6 : Int32) =>
            ((if r3 = 0 then
              some (z1.2 4 0)
            else
              some (cd_max (z1.2 4 0) z1.1))).bind (fun (x7 : Int32) =>
              some (Sum.inr ((z1.1 + (1 : Int32)), (cd_fld (cd_fld (cd_set z1.2 0 j5 x4) 3 x6) 4 x7)))))))))
def f_X4_isNeeded (a0 : Int32) (V : Nat → Nat → Int32) (T : Nat → Nat → Int32) : Option (Int32 × (Nat → Nat → Int32)) :=
  (cd_iter cd_N (f_X4_isNeeded_b12 T) ((0 : Int32), (cd_fld (cd_fld V 3 a0) 4 a0))).bind (fun (t1 : (Nat → Nat → Int32)) =>
    ((if (t1 3 0) < a0 then
      some (1 : Int32)
    else
      (if (t1 4 0) ≤ a0 then
        some (0 : Int32)
      else
        some (1 : Int32)))).bind (fun (x9 : Int32) =>
      (cd_zb x9).bind (fun u10 =>
        some (x9, t1))))
def f_X5_canBeRead_b35 (a0 : Int32) (T : (Nat → Nat → Int32)) (r5 : Int32) (z6 : Int32 × Int32) : Option ((Int32) ⊕ (Int32 × Int32)) :=
  (if (12 : Int32) ≤ z6.2 then
    some (Sum.inl z6.1)
  else
    (f_X5_holds a0 z6.2).bind (fun r8 =>
      (if r8 = 0 then
        some (Sum.inr (z6.1, (z6.2 + (1 : Int32))))
      else
        (f_X3_minutesLeft z6.2 T).bind (fun r10 =>
          (if r5 < r10 then
            some (Sum.inr (z6.1, (z6.2 + (1 : Int32))))
          else
            some (Sum.inr ((z6.1 + (1 : Int32)), (z6.2 + (1 : Int32)))))))))
def f_X5_canBeRead_b2 (a0 : Int32) (a1 : Int32) (T : (Nat → Nat → Int32)) (z1 : Int32) : Option (((Int32) ⊕ (Unit)) ⊕ (Int32)) :=
  (if (12 : Int32) ≤ z1 then
    some (Sum.inl (Sum.inr ()))
  else
    (f_X5_holds a0 z1).bind (fun r3 =>
      (if r3 = 0 then
        some (Sum.inr (z1 + (1 : Int32)))
      else
        (f_X3_minutesLeft z1 T).bind (fun r5 =>
          (cd_iter cd_N (f_X5_canBeRead_b35 a0 T r5) ((0 : Int32), (0 : Int32))).bind (fun (t6 : Int32) =>
            (if (t6 * a1) ≤ r5 then
              some (Sum.inr (z1 + (1 : Int32)))
            else
              some (Sum.inl (Sum.inl (0 : Int32)))))))))
def f_X5_canBeRead (a0 : Int32) (a1 : Int32) (K : Nat → Nat → Int32) (T : Nat → Nat → Int32) : Option (Int32) :=
  (cd_iter cd_N (f_X5_canBeRead_b2 a0 a1 T) (0 : Int32)).bind (fun (x1 : (Int32) ⊕ (Unit)) => Sum.elim (fun r => some r) (fun (t1 : Unit) =>
    some (1 : Int32)) x1)
def f_X5_readableSet_b4 (a0 : Int32) (K : (Nat → Nat → Int32)) (T : (Nat → Nat → Int32)) (z1 : Int32 × Int32) : Option ((Int32) ⊕ (Int32 × Int32)) :=
  (if (12 : Int32) ≤ z1.2 then
    some (Sum.inl z1.1)
  else
    (f_X3_isLit z1.2 T).bind (fun r3 =>
      (if r3 = 0 then
        some (Sum.inr (z1.1, (z1.2 + (1 : Int32))))
      else
        (f_X5_bit z1.2).bind (fun r5 =>
          (f_X5_canBeRead (z1.1 ||| r5) a0 K T).bind (fun r6 =>
            (if r6 = 0 then
              some (Sum.inr (z1.1, (z1.2 + (1 : Int32))))
            else
              (f_X5_bit z1.2).bind (fun r8 =>
                some (Sum.inr ((z1.1 ||| r8), (z1.2 + (1 : Int32)))))))))))
def f_X5_readableSet (a0 : Int32) (K : Nat → Nat → Int32) (T : Nat → Nat → Int32) : Option (Int32) :=
  (cd_iter cd_N (f_X5_readableSet_b4 a0 K T) ((0 : Int32), (0 : Int32))).bind (fun (t1 : Int32) =>
    some t1)
def f_X5_accounts (a0 : Int32) (a1 : Int32) (K : Nat → Nat → Int32) (T : Nat → Nat → Int32) : Option (Int32) :=
  (f_X5_within a0 (1 : Int32) (99 : Int32)).bind (fun r1 =>
    (if r1 = 0 then
      some (-2 : Int32)
    else
      (f_X5_within a1 (0 : Int32) (1 : Int32)).bind (fun r3 =>
        (if r3 = 0 then
          some (-2 : Int32)
        else
          (f_X5_readableSet a0 K T).bind (fun r5 =>
            ((if a1 = 0 then
              (f_J6_bitCount r5).bind (fun r7 =>
                some r7)
            else
              some r5)).bind (fun (x6 : Int32) =>
              some x6))))))
def f_X5_nightCanBe (K : Nat → Nat → Int32) (T : Nat → Nat → Int32) (P : Nat → Nat → Int32) (Y : Nat → Nat → Int32) (S : Nat → Nat → Int32) : Option (Int32 × (Nat → Nat → Int32) × (Nat → Nat → Int32) × (Nat → Nat → Int32)) :=
  (f_X0_firstFault P).bind (fun r1 =>
    ((if r1.1 = (-6 : Int32) then
      (f_X1_night Y S T r1.2).bind (fun r4 =>
        (if r4.1 = 0 then
          some ((0 : Int32), r4.2.2.2, r4.2.1, r4.2.2.1)
        else
          some ((1 : Int32), r4.2.2.2, r4.2.1, r4.2.2.1)))
    else
      some ((0 : Int32), r1.2, Y, S))).bind (fun (x2 : Int32 × (Nat → Nat → Int32) × (Nat → Nat → Int32) × (Nat → Nat → Int32)) =>
      (cd_zb x2.1).bind (fun u3 =>
        some (x2.1, x2.2.1, x2.2.2.1, x2.2.2.2))))
def f_X5_behind (a0 : Int32) (a1 : Int32) (K : Nat → Nat → Int32) (T : Nat → Nat → Int32) (P : Nat → Nat → Int32) (Y : Nat → Nat → Int32) (S : Nat → Nat → Int32) : Option (Int32 × (Nat → Nat → Int32) × (Nat → Nat → Int32) × (Nat → Nat → Int32)) :=
  (f_X5_isCandle a0).bind (fun r1 =>
    (if r1 = 0 then
      some ((-1 : Int32), P, Y, S)
    else
      (f_X5_within a1 (0 : Int32) (3 : Int32)).bind (fun r3 =>
        (if r3 = 0 then
          some ((-2 : Int32), P, Y, S)
        else
          (f_X5_nightCanBe K T P Y S).bind (fun r5 =>
            (if r5.1 = 0 then
              some ((-5 : Int32), r5.2.1, r5.2.2.1, r5.2.2.2)
            else
              (if a1 = (0 : Int32) then
                (cd_rd (r5.2.2.2 0) 12 a0).bind (fun v8 =>
                  some (v8, r5.2.1, r5.2.2.1, r5.2.2.2))
              else
                if a1 = (1 : Int32) then
                  (f_X3_isLit a0 r5.2.2.2).bind (fun r9 =>
                    ((if r9 = 0 then
                      some (0 : Int32)
                    else
                      some (1 : Int32))).bind (fun (x10 : Int32) =>
                      some (x10, r5.2.1, r5.2.2.1, r5.2.2.2)))
                else
                  if a1 = (2 : Int32) then
                    (cd_rd (r5.2.2.2 5) 12 a0).bind (fun v11 =>
                      some (v11, r5.2.1, r5.2.2.1, r5.2.2.2))
                  else
                    (cd_rd (r5.2.2.2 1) 12 a0).bind (fun v12 =>
                      some (v12, r5.2.1, r5.2.2.1, r5.2.2.2)))))))))
def f_X5_isOne (a0 : Int32) : Option (Int32) :=
  (f_X5_within a0 (0 : Int32) (5 : Int32)).bind (fun r1 =>
    (cd_zb r1).bind (fun u2 =>
      some r1))
def f_X5_candle (a0 : Int32) (a1 : Int32) (a2 : Int32) (a3 : Int32) (a4 : Int32) (K : Nat → Nat → Int32) (T : Nat → Nat → Int32) : Option (Int32 × (Nat → Nat → Int32)) :=
  (f_X5_isCandle a0).bind (fun r1 =>
    (if r1 = 0 then
      some ((-1 : Int32), T)
    else
      (f_X5_isOne a2).bind (fun r3 =>
        (if r3 = 0 then
          some ((-1 : Int32), T)
        else
          (f_X5_isOne a3).bind (fun r5 =>
            (if r5 = 0 then
              some ((-1 : Int32), T)
            else
              (f_X5_within a1 (0 : Int32) (999 : Int32)).bind (fun r7 =>
                (if r7 = 0 then
                  some ((-2 : Int32), T)
                else
                  (f_X5_within a4 (0 : Int32) (999 : Int32)).bind (fun r9 =>
                    (if r9 = 0 then
                      some ((-2 : Int32), T)
                    else
                      (cd_rd (T 0) 12 a0).bind (fun v11 =>
                        (f_X3_place a0 a1 a2 a3 a4 T).bind (fun r12 =>
                          some (v11, r12)))))))))))))
def f_X5_done (K : Nat → Nat → Int32) (T : Nat → Nat → Int32) (P : Nat → Nat → Int32) (Y : Nat → Nat → Int32) (S : Nat → Nat → Int32) : Option (Int32 × (Nat → Nat → Int32) × (Nat → Nat → Int32) × (Nat → Nat → Int32) × (Nat → Nat → Int32)) :=
  (f_X5_nightCanBe K T P Y S).bind (fun r1 =>
    (if r1.1 = 0 then
      some ((-5 : Int32), T, r1.2.1, r1.2.2.1, r1.2.2.2)
    else
      (f_X3_copyFrom T r1.2.2.2).bind (fun r3 =>
        some ((r1.2.2.1 1 0), r3, (cd_fld r1.2.1 1 (0 : Int32)), r1.2.2.1, r1.2.2.2))))
def f_X5_draught (a0 : Int32) (a1 : Int32) (K : Nat → Nat → Int32) (T : Nat → Nat → Int32) : Option (Int32 × (Nat → Nat → Int32)) :=
  (f_X5_isCandle a0).bind (fun r1 =>
    (if r1 = 0 then
      some ((-1 : Int32), T)
    else
      (f_X5_within a1 (0 : Int32) (9 : Int32)).bind (fun r3 =>
        (if r3 = 0 then
          some ((-2 : Int32), T)
        else
          (cd_rd (T 2) 12 a0).bind (fun v5 =>
            (cd_ix 12 a0).bind (fun j6 =>
              some (v5, (cd_set T 2 j6 a1))))))))
def f_X5_fault (K : Nat → Nat → Int32) (P : Nat → Nat → Int32) : Option (Int32 × (Nat → Nat → Int32)) :=
  (f_X0_firstFault P).bind (fun r1 =>
    some (r1.1, r1.2))
def f_X5_forget (K : Nat → Nat → Int32) (T : Nat → Nat → Int32) : Option (Int32 × (Nat → Nat → Int32)) :=
  some ((T 10 0), (cd_fld T 10 (0 : Int32)))
def f_X5_has (a0 : Int32) (K : Nat → Nat → Int32) (T : Nat → Nat → Int32) (P : Nat → Nat → Int32) (Y : Nat → Nat → Int32) (S : Nat → Nat → Int32) : Option (Int32 × (Nat → Nat → Int32) × (Nat → Nat → Int32) × (Nat → Nat → Int32)) :=
  (f_X5_isOne a0).bind (fun r1 =>
    (if r1 = 0 then
      some ((-1 : Int32), P, Y, S)
    else
      (f_X5_nightCanBe K T P Y S).bind (fun r3 =>
        ((if r3.1 = 0 then
          some (-5 : Int32)
        else
          (cd_rd (r3.2.2.2 7) 6 a0).bind (fun v5 =>
            some v5))).bind (fun (x4 : Int32) =>
          some (x4, r3.2.1, r3.2.2.1, r3.2.2.2)))))
def f_X5_image (a0 : Int32) (K : Nat → Nat → Int32) (T : Nat → Nat → Int32) (T1 : Nat → Nat → Int32) (T2 : Nat → Nat → Int32) : Option (Int32 × (Nat → Nat → Int32) × (Nat → Nat → Int32) × (Nat → Nat → Int32)) :=
  (f_X5_within a0 (0 : Int32) (1 : Int32)).bind (fun r1 =>
    (if r1 = 0 then
      some ((-2 : Int32), K, T1, T2)
    else
      (if a0 = 0 then
        (f_X3_copyFrom T1 T).bind (fun r4 =>
          (cd_ix 2 a0).bind (fun j5 =>
            some ((1 : Int32), (cd_set K 3 j5 (1 : Int32)), r4, T2)))
      else
        (f_X3_copyFrom T2 T).bind (fun r6 =>
          (cd_ix 2 a0).bind (fun j7 =>
            some ((1 : Int32), (cd_set K 3 j7 (1 : Int32)), T1, r6))))))
def f_X5_joined (a0 : Int32) (K : Nat → Nat → Int32) (T : Nat → Nat → Int32) : Option (Int32) :=
  (f_X5_isCandle a0).bind (fun r1 =>
    ((if r1 = 0 then
      some (-1 : Int32)
    else
      (cd_rd (T 6) 12 a0).bind (fun v3 =>
        (f_X5_bit a0).bind (fun r4 =>
          some (v3 &&& (r4 ^^^ (-1 : Int32))))))).bind (fun (x2 : Int32) =>
      some x2))
def f_X5_matchesFor_b10 (a0 : Int32) (T : (Nat → Nat → Int32)) (z1 : Int32 × Int32 × Int32 × Int32) : Option ((Int32) ⊕ (Int32 × Int32 × Int32 × Int32)) :=
  (if (12 : Int32) ≤ z1.2.2.2 then
    some (Sum.inl z1.1)
  else
    (cd_rd (T 0) 12 z1.2.2.2).bind (fun v3 =>
      ((if v3 ≤ 0 then
        some (z1.2.1, z1.2.2.1)
      else
        (f_X5_holds a0 z1.2.2.2).bind (fun r11 =>
          (f_X3_isLit z1.2.2.2 T).bind (fun r12 =>
            some ((z1.2.1 ||| r11), (z1.2.2.1 ||| r12)))))).bind (fun (x4 : Int32 × Int32) =>
        (cd_rd (T 0) 12 z1.2.2.2).bind (fun v5 =>
          ((if v5 = 0 then
            some (1 : Int32)
          else
            (if z1.2.2.2 = (11 : Int32) then
              some (1 : Int32)
            else
              some (0 : Int32)))).bind (fun (x6 : Int32) =>
            (if x6 = 0 then
              some (Sum.inr (z1.1, x4.1, x4.2, (z1.2.2.2 + (1 : Int32))))
            else
              ((if x4.1 = 0 then
                some (0 : Int32)
              else
                (if x4.2 = 0 then
                  some (1 : Int32)
                else
                  some (0 : Int32)))).bind (fun (x8 : Int32) =>
                some (Sum.inr ((z1.1 + x8), (0 : Int32), (0 : Int32), (z1.2.2.2 + (1 : Int32)))))))))))
def f_X5_matchesFor (a0 : Int32) (K : Nat → Nat → Int32) (T : Nat → Nat → Int32) : Option (Int32) :=
  (cd_iter cd_N (f_X5_matchesFor_b10 a0 T) ((0 : Int32), (0 : Int32), (0 : Int32), (0 : Int32))).bind (fun (t1 : Int32) =>
    some t1)
def f_X5_jubilee_b20 (a0 : Int32) (T : (Nat → Nat → Int32)) (z4 : Int32) : Option (((Int32) ⊕ (Unit)) ⊕ (Int32)) :=
  (if (12 : Int32) ≤ z4 then
    some (Sum.inl (Sum.inr ()))
  else
    (f_X5_holds a0 z4).bind (fun r6 =>
      (if r6 = 0 then
        some (Sum.inr (z4 + (1 : Int32)))
      else
        (cd_rd (T 0) 12 z4).bind (fun v8 =>
          (if v8 = 0 then
            some (Sum.inl (Sum.inl (-6 : Int32)))
          else
            some (Sum.inr (z4 + (1 : Int32))))))))
def f_X5_jubilee (a0 : Int32) (K : Nat → Nat → Int32) (T : Nat → Nat → Int32) : Option (Int32) :=
  (f_X5_bit (12 : Int32)).bind (fun r1 =>
    (f_X5_within a0 (0 : Int32) (r1 - (1 : Int32))).bind (fun r2 =>
      (if r2 = 0 then
        some (-2 : Int32)
      else
        (cd_iter cd_N (f_X5_jubilee_b20 a0 T) (0 : Int32)).bind (fun (x4 : (Int32) ⊕ (Unit)) => Sum.elim (fun r => some r) (fun (t4 : Unit) =>
          (f_X5_matchesFor a0 K T).bind (fun r10 =>
            some r10)) x4))))
def f_X5_judge (a0 : Int32) (K : Nat → Nat → Int32) (T : Nat → Nat → Int32) (P : Nat → Nat → Int32) (Y : Nat → Nat → Int32) (S : Nat → Nat → Int32) : Option (Int32 × (Nat → Nat → Int32) × (Nat → Nat → Int32) × (Nat → Nat → Int32)) :=
  (f_X5_within a0 (0 : Int32) (1 : Int32)).bind (fun r1 =>
    (if r1 = 0 then
      some ((-2 : Int32), P, Y, S)
    else
      (f_X0_firstFault P).bind (fun r3 =>
        (if r3.1 = (-6 : Int32) then
          (f_X1_night Y S T r3.2).bind (fun r5 =>
            (if r5.1 = 0 then
              ((if a0 = 0 then
                some (r5.2.1 1 0)
              else
                some (r5.2.1 2 0))).bind (fun (x7 : Int32) =>
                some (x7, r5.2.2.2, r5.2.1, r5.2.2.1))
            else
              some ((-6 : Int32), r5.2.2.2, r5.2.1, r5.2.2.1)))
        else
          some ((-5 : Int32), r3.2, Y, S)))))
def f_X5_lasts (a0 : Int32) (K : Nat → Nat → Int32) (T : Nat → Nat → Int32) : Option (Int32) :=
  (f_X5_isCandle a0).bind (fun r1 =>
    ((if r1 = 0 then
      some (-1 : Int32)
    else
      (f_X3_minutesLeft a0 T).bind (fun r3 =>
        some r3))).bind (fun (x2 : Int32) =>
      some x2))
def f_X5_look_b54 (T : (Nat → Nat → Int32)) (z7 : Int32 × Int32 × Int32 × (Nat → Nat → Int32)) : Option ((Int32 × Int32 × (Nat → Nat → Int32)) ⊕ (Int32 × Int32 × Int32 × (Nat → Nat → Int32))) :=
  (if (12 : Int32) ≤ z7.2.2.1 then
    some (Sum.inl (z7.1, z7.2.1, z7.2.2.2))
  else
    (f_X2_mostLeft z7.2.2.1 z7.2.2.2 T).bind (fun r9 =>
      (if z7.2.1 ≤ r9.1 then
        some (Sum.inr (z7.1, z7.2.1, (z7.2.2.1 + (1 : Int32)), r9.2))
      else
        some (Sum.inr (z7.2.2.1, r9.1, (z7.2.2.1 + (1 : Int32)), r9.2)))))
def f_X5_look (a0 : Int32) (K : Nat → Nat → Int32) (T : Nat → Nat → Int32) (Z : Nat → Nat → Int32) : Option (Int32 × (Nat → Nat → Int32)) :=
  (f_X5_within a0 (0 : Int32) (1 : Int32)).bind (fun r1 =>
    (if r1 = 0 then
      some ((-2 : Int32), Z)
    else
      (f_X2_fit Z T).bind (fun r3 =>
        (f_X2_howMany r3).bind (fun r4 =>
          (if r4 = 0 then
            some ((-6 : Int32), r3)
          else
            (f_X2_mostLeft (0 : Int32) r3 T).bind (fun r6 =>
              (cd_iter cd_N (f_X5_look_b54 T) ((0 : Int32), r6.1, (1 : Int32), r6.2)).bind (fun (t7 : Int32 × Int32 × (Nat → Nat → Int32)) =>
                ((if a0 = 0 then
                  some t7.1
                else
                  some t7.2.1)).bind (fun (x11 : Int32) =>
                  some (x11, t7.2.2)))))))))
def f_X5_matches (a0 : Int32) (K : Nat → Nat → Int32) (T : Nat → Nat → Int32) : Option (Int32 × (Nat → Nat → Int32)) :=
  (f_X5_within a0 (0 : Int32) (99 : Int32)).bind (fun r1 =>
    (if r1 = 0 then
      some ((-2 : Int32), T)
    else
      some ((T 12 0), (cd_fld T 12 a0))))
def f_X5_may_b13 (a0 : Int32) (T : (Nat → Nat → Int32)) (z3 : Int32 × Int32) : Option ((Int32) ⊕ (Int32 × Int32)) :=
  (if (12 : Int32) ≤ z3.2 then
    some (Sum.inl z3.1)
  else
    (f_X3_canBeAsked z3.2 T).bind (fun r5 =>
      (if r5 = 0 then
        some (Sum.inr (z3.1, (z3.2 + (1 : Int32))))
      else
        (cd_rd (T 3) 12 z3.2).bind (fun v7 =>
          (if v7 = a0 then
            (f_X5_bit z3.2).bind (fun r9 =>
              some (Sum.inr ((z3.1 ||| r9), (z3.2 + (1 : Int32)))))
          else
            some (Sum.inr (z3.1, (z3.2 + (1 : Int32)))))))))
def f_X5_may (a0 : Int32) (K : Nat → Nat → Int32) (T : Nat → Nat → Int32) : Option (Int32) :=
  (f_X5_isOne a0).bind (fun r1 =>
    (if r1 = 0 then
      some (-1 : Int32)
    else
      (cd_iter cd_N (f_X5_may_b13 a0 T) ((0 : Int32), (0 : Int32))).bind (fun (t3 : Int32) =>
        some t3)))
def f_X5_partOf_b9 (z1 : Int64 × Int64 × Int32) : Option ((Int64) ⊕ (Int64 × Int64 × Int32)) :=
  (if (100 : Int32) ≤ z1.2.2 then
    some (Sum.inl z1.1)
  else
    (if (lg_cmp z1.2.1 (0 : Int64)) ≤ 0 then
      some (Sum.inl z1.1)
    else
      (cd_nzl z1.2.1).bind (fun u4 =>
        some (Sum.inr (z1.2.1, (z1.1 - z1.1 / z1.2.1 * z1.2.1), (z1.2.2 + (1 : Int32)))))))
def f_X5_partOf (a0 : Int64) (a1 : Int64) (a2 : Int32) : Option (Int64) :=
  (cd_iter cd_N f_X5_partOf_b9 (a1, a0, (0 : Int32))).bind (fun (t1 : Int64) =>
    (if 0 ≤ (lg_cmp t1 (1 : Int64)) then
      ((if a2 = 0 then
        (cd_nzl t1).bind (fun u7 =>
          some (a0 / t1))
      else
        (cd_nzl t1).bind (fun u8 =>
          some (a1 / t1)))).bind (fun (x6 : Int64) =>
        some x6)
    else
      ((if a2 = 0 then
        some a0
      else
        some a1)).bind (fun (x9 : Int64) =>
        some x9)))
def f_X5_moths_b103 (a1 : Int32) (a2 : Int32) (z9 : Int64 × Int64 × Int32) : Option ((Int64 × Int64) ⊕ (Int64 × Int64 × Int32)) :=
  (if a2 ≤ z9.2.2 then
    some (Sum.inl (z9.1, z9.2.1))
  else
    some (Sum.inr ((z9.1 * (((10 : Int32) - a1).toInt64)), (z9.2.1 * (10 : Int64)), (z9.2.2 + (1 : Int32)))))
def f_X5_moths_b103_26 (a1 : Int32) (a2 : Int32) (z26 : Int64 × Int64 × Int32) : Option ((Int64 × Int64) ⊕ (Int64 × Int64 × Int32)) :=
  (if a2 ≤ z26.2.2 then
    some (Sum.inl (z26.1, z26.2.1))
  else
    some (Sum.inr ((z26.1 * (((10 : Int32) - a1).toInt64)), (z26.2.1 * (10 : Int64)), (z26.2.2 + (1 : Int32)))))
def f_X5_moths (a0 : Int32) (a1 : Int32) (a2 : Int32) (a3 : Int32) (K : Nat → Nat → Int32) (T : Nat → Nat → Int32) : Option (Int64) :=
  (if a0 = (-1 : Int32) then
    (f_X5_within a1 (0 : Int32) (10 : Int32)).bind (fun r2 =>
      (if r2 = 0 then
        some (-1000000000000000002 : Int64)
      else
        (f_X5_within a2 (0 : Int32) (15 : Int32)).bind (fun r4 =>
          (if r4 = 0 then
            some (-1000000000000000002 : Int64)
          else
            (f_X5_within a3 (0 : Int32) (1 : Int32)).bind (fun r6 =>
              (if r6 = 0 then
                some (-1000000000000000002 : Int64)
              else
                ((if a0 = (-1 : Int32) then
                  (f_X3_howManyOutlast a2 T).bind (fun r12 =>
                    some (r12.toInt64))
                else
                  (f_X3_outlasts a0 a2 T).bind (fun r13 =>
                    (if r13 = 0 then
                      some (0 : Int64)
                    else
                      some (1 : Int64))))).bind (fun (x8 : Int64) =>
                  (cd_iter cd_N (f_X5_moths_b103 a1 a2) (x8, (1 : Int64), (0 : Int32))).bind (fun (t9 : Int64 × Int64) =>
                    (f_X5_partOf t9.1 t9.2 a3).bind (fun r11 =>
                      some r11)))))))))
  else
    (f_X5_isCandle a0).bind (fun r15 =>
      (if r15 = 0 then
        some (-1000000000000000001 : Int64)
      else
        (f_X3_isLit a0 T).bind (fun r17 =>
          (if r17 = 0 then
            some (-1000000000000000001 : Int64)
          else
            (f_X5_within a1 (0 : Int32) (10 : Int32)).bind (fun r19 =>
              (if r19 = 0 then
                some (-1000000000000000002 : Int64)
              else
                (f_X5_within a2 (0 : Int32) (15 : Int32)).bind (fun r21 =>
                  (if r21 = 0 then
                    some (-1000000000000000002 : Int64)
                  else
                    (f_X5_within a3 (0 : Int32) (1 : Int32)).bind (fun r23 =>
                      (if r23 = 0 then
                        some (-1000000000000000002 : Int64)
                      else
                        ((if a0 = (-1 : Int32) then
                          (f_X3_howManyOutlast a2 T).bind (fun r29 =>
                            some (r29.toInt64))
                        else
                          (f_X3_outlasts a0 a2 T).bind (fun r30 =>
                            (if r30 = 0 then
                              some (0 : Int64)
                            else
                              some (1 : Int64))))).bind (fun (x25 : Int64) =>
                          (cd_iter cd_N (f_X5_moths_b103_26 a1 a2) (x25, (1 : Int64), (0 : Int32))).bind (fun (t26 : Int64 × Int64) =>
                            (f_X5_partOf t26.1 t26.2 a3).bind (fun r28 =>
                              some r28))))))))))))))
def f_X5_net_b14 (a0 : Int32) (T : (Nat → Nat → Int32)) (z3 : Int32 × Int32) : Option ((Int32) ⊕ (Int32 × Int32)) :=
  (if (12 : Int32) ≤ z3.2 then
    some (Sum.inl z3.1)
  else
    (f_X3_isLit z3.2 T).bind (fun r5 =>
      ((if r5 = 0 then
        some z3.1
      else
        (cd_rd (T 3) 12 z3.2).bind (fun v12 =>
          (if v12 = a0 then
            (cd_rd (T 5) 12 z3.2).bind (fun v14 =>
              some (z3.1 + v14))
          else
            some z3.1)))).bind (fun (x6 : Int32) =>
        (f_X3_isLit z3.2 T).bind (fun r7 =>
          (if r7 = 0 then
            some (Sum.inr (x6, (z3.2 + (1 : Int32))))
          else
            (cd_rd (T 4) 12 z3.2).bind (fun v9 =>
              (if v9 = a0 then
                (cd_rd (T 5) 12 z3.2).bind (fun v11 =>
                  some (Sum.inr ((x6 - v11), (z3.2 + (1 : Int32)))))
              else
                some (Sum.inr (x6, (z3.2 + (1 : Int32)))))))))))
def f_X5_net (a0 : Int32) (K : Nat → Nat → Int32) (T : Nat → Nat → Int32) : Option (Int32) :=
  (f_X5_isOne a0).bind (fun r1 =>
    (if r1 = 0 then
      some (-1 : Int32)
    else
      (cd_iter cd_N (f_X5_net_b14 a0 T) ((100000 : Int32), (0 : Int32))).bind (fun (t3 : Int32) =>
        some t3)))
def f_X5_purse (a0 : Int32) (a1 : Int32) (K : Nat → Nat → Int32) (T : Nat → Nat → Int32) : Option (Int32 × (Nat → Nat → Int32)) :=
  (f_X5_isOne a0).bind (fun r1 =>
    (if r1 = 0 then
      some ((-1 : Int32), T)
    else
      (f_X5_within a1 (0 : Int32) (9999 : Int32)).bind (fun r3 =>
        (if r3 = 0 then
          some ((-2 : Int32), T)
        else
          (cd_rd (T 7) 6 a0).bind (fun v5 =>
            (cd_ix 6 a0).bind (fun j6 =>
              some (v5, (cd_set T 7 j6 a1))))))))
def f_X5_restore (a0 : Int32) (K : Nat → Nat → Int32) (T : Nat → Nat → Int32) (T1 : Nat → Nat → Int32) (T2 : Nat → Nat → Int32) : Option (Int32 × (Nat → Nat → Int32)) :=
  (f_X5_within a0 (0 : Int32) (1 : Int32)).bind (fun r1 =>
    (if r1 = 0 then
      some ((-2 : Int32), T)
    else
      (cd_rd (K 3) 2 a0).bind (fun v3 =>
        (if v3 = 0 then
          some ((-3 : Int32), T)
        else
          (if a0 = 0 then
            (f_X3_copyFrom T T1).bind (fun r6 =>
              some ((1 : Int32), r6))
          else
            (f_X3_copyFrom T T2).bind (fun r7 =>
              some ((1 : Int32), r7)))))))
def f_X5_round (a0 : Int32) (a1 : Int32) (K : Nat → Nat → Int32) (T : Nat → Nat → Int32) (V : Nat → Nat → Int32) : Option (Int32 × (Nat → Nat → Int32)) :=
  (f_X5_isCandle a0).bind (fun r1 =>
    (if r1 = 0 then
      some ((-1 : Int32), V)
    else
      (f_X5_within a1 (0 : Int32) (1 : Int32)).bind (fun r3 =>
        (if r3 = 0 then
          some ((-2 : Int32), V)
        else
          (f_X4_isNeeded a0 V T).bind (fun r5 =>
            (if r5.1 = 0 then
              ((if a1 = 0 then
                some (0 : Int32)
              else
                some (-6 : Int32))).bind (fun (x7 : Int32) =>
                some (x7, r5.2))
            else
              (f_X4_fewestMinutes a0 (-1 : Int32) r5.2).bind (fun r8 =>
                (f_X4_fewestMinutes a0 (1 : Int32) r8.2).bind (fun r9 =>
                  (if (cd_min r8.1 r9.1) < (1000000 : Int32) then
                    (if a1 = 0 then
                      some ((cd_min r8.1 r9.1), r9.2)
                    else
                      ((if r8.1 = (cd_min r8.1 r9.1) then
                        some (0 : Int32)
                      else
                        some (1 : Int32))).bind (fun (x12 : Int32) =>
                        some (x12, r9.2)))
                  else
                    some ((-6 : Int32), r9.2))))))))))
def f_X5_say (a0 : Int32) (K : Nat → Nat → Int32) (P : Nat → Nat → Int32) : Option (Int32 × (Nat → Nat → Int32)) :=
  (f_X5_within a0 (33 : Int32) (126 : Int32)).bind (fun r1 =>
    (if r1 = 0 then
      some ((-2 : Int32), P)
    else
      (f_X0_write a0 P).bind (fun r3 =>
        ((if r3.1 = 0 then
          some (-4 : Int32)
        else
          some (r3.2 1 0))).bind (fun (x4 : Int32) =>
          some (x4, r3.2)))))
def f_X5_seen (a0 : Int32) (a1 : Int32) (K : Nat → Nat → Int32) (T : Nat → Nat → Int32) : Option (Int32 × (Nat → Nat → Int32)) :=
  (f_X5_isCandle a0).bind (fun r1 =>
    (if r1 = 0 then
      some ((-1 : Int32), T)
    else
      (f_X5_within a1 (0 : Int32) (999 : Int32)).bind (fun r3 =>
        (if r3 = 0 then
          some ((-2 : Int32), T)
        else
          (f_X3_addSight a0 a1 T).bind (fun r5 =>
            ((if r5.1 = 0 then
              some (-4 : Int32)
            else
              some (r5.2 10 0))).bind (fun (x6 : Int32) =>
              some (x6, r5.2)))))))
def f_X5_ship (a0 : Int32) (a1 : Int32) (a2 : Int32) (a3 : Int32) (K : Nat → Nat → Int32) : Option (Int64) :=
  (f_X5_within a0 (1 : Int32) (9 : Int32)).bind (fun r1 =>
    (if r1 = 0 then
      some (-1000000000000000002 : Int64)
    else
      (f_X5_within a1 (0 : Int32) (99 : Int32)).bind (fun r3 =>
        (if r3 = 0 then
          some (-1000000000000000002 : Int64)
        else
          (f_X5_within a2 (0 : Int32) (99 : Int32)).bind (fun r5 =>
            (if r5 = 0 then
              some (-1000000000000000002 : Int64)
            else
              (f_X5_within a3 (0 : Int32) (1 : Int32)).bind (fun r7 =>
                (if r7 = 0 then
                  some (-1000000000000000002 : Int64)
                else
                  ((if (cd_max (0 : Int32) ((200 : Int32) - (a0 * a1))) = 0 then
                    (f_X5_partOf (0 : Int64) (1 : Int64) a3).bind (fun r10 =>
                      some r10)
                  else
                    (f_X5_partOf ((cd_max (0 : Int32) ((200 : Int32) - (a0 * (a1 + a2)))).toInt64) ((cd_max (0 : Int32) ((200 : Int32) - (a0 * a1))).toInt64) a3).bind (fun r11 =>
                      some r11))).bind (fun (x9 : Int64) =>
                    some x9)))))))))
def f_X5_sneezes (a0 : Int32) (K : Nat → Nat → Int32) (T : Nat → Nat → Int32) (Z : Nat → Nat → Int32) : Option (Int32 × (Nat → Nat → Int32)) :=
  (f_X2_fit Z T).bind (fun r1 =>
    ((if a0 = (-1 : Int32) then
      (f_X2_howMany r1).bind (fun r3 =>
        some r3)
    else
      (f_X2_at a0 r1).bind (fun r4 =>
        some r4))).bind (fun (x2 : Int32) =>
      some (x2, r1)))
def f_X5_worthOf_b6 (a0 : Int32) (z1 : Int32 × Int32 × Int32) : Option ((Int32 × Int32) ⊕ (Int32 × Int32 × Int32)) :=
  (if (12 : Int32) ≤ z1.2.2 then
    some (Sum.inl (z1.1, z1.2.1))
  else
    (f_X5_holds a0 z1.2.2).bind (fun r3 =>
      (if r3 = 0 then
        (cd_rd cd_rw 13 z1.2.1).bind (fun v5 =>
          some (Sum.inr ((z1.1 ^^^ v5), (0 : Int32), (z1.2.2 + (1 : Int32)))))
      else
        some (Sum.inr (z1.1, (z1.2.1 + (1 : Int32)), (z1.2.2 + (1 : Int32)))))))
def f_X5_worthOf (a0 : Int32) : Option (Int32) :=
  (cd_iter cd_N (f_X5_worthOf_b6 a0) ((0 : Int32), (0 : Int32), (0 : Int32))).bind (fun (t1 : Int32 × Int32) =>
    (cd_rd cd_rw 13 t1.2).bind (fun v6 =>
      some (t1.1 ^^^ v6)))
def f_X5_winningSnuff_b2 (a0 : Int32) (z1 : Int32) : Option (((Int32) ⊕ (Unit)) ⊕ (Int32)) :=
  (if (12 : Int32) ≤ z1 then
    some (Sum.inl (Sum.inr ()))
  else
    (f_X5_bit z1).bind (fun r3 =>
      (f_X5_bit (z1 + (1 : Int32))).bind (fun r4 =>
        (f_X5_bit z1).bind (fun r5 =>
          (f_X5_holds a0 z1).bind (fun r6 =>
            (if r6 = 0 then
              some (Sum.inr (z1 + (1 : Int32)))
            else
              (f_X5_worthOf (a0 &&& (((r3 ||| r4) ||| (r5 >>> ((1 : Int32) &&& 31))) ^^^ (-1 : Int32)))).bind (fun r8 =>
                (if r8 = 0 then
                  some (Sum.inl (Sum.inl z1))
                else
                  some (Sum.inr (z1 + (1 : Int32)))))))))))
def f_X5_winningSnuff (a0 : Int32) : Option (Int32) :=
  (cd_iter cd_N (f_X5_winningSnuff_b2 a0) (0 : Int32)).bind (fun (x1 : (Int32) ⊕ (Unit)) => Sum.elim (fun r => some r) (fun (t1 : Unit) =>
    some (-6 : Int32)) x1)
def f_X5_snuff (a0 : Int32) (K : Nat → Nat → Int32) (T : Nat → Nat → Int32) : Option (Int32) :=
  (f_X5_within a0 (0 : Int32) (1 : Int32)).bind (fun r1 =>
    (if r1 = 0 then
      some (-2 : Int32)
    else
      (f_X5_winningSnuff (T 11 0)).bind (fun r3 =>
        (if a0 = (1 : Int32) then
          some r3
        else
          ((if r3 = (-6 : Int32) then
            some (0 : Int32)
          else
            some (1 : Int32))).bind (fun (x5 : Int32) =>
            some x5)))))
def f_X5_then (a0 : Int32) (K : Nat → Nat → Int32) (T : Nat → Nat → Int32) (P : Nat → Nat → Int32) (Y : Nat → Nat → Int32) (S : Nat → Nat → Int32) : Option (Int32 × (Nat → Nat → Int32) × (Nat → Nat → Int32) × (Nat → Nat → Int32)) :=
  (f_X5_within a0 (0 : Int32) (5 : Int32)).bind (fun r1 =>
    (if r1 = 0 then
      some ((-2 : Int32), P, Y, S)
    else
      (f_X5_nightCanBe K T P Y S).bind (fun r3 =>
        (if r3.1 = 0 then
          some ((-5 : Int32), r3.2.1, r3.2.2.1, r3.2.2.2)
        else
          (if a0 = (0 : Int32) then
            some ((r3.2.2.2 11 0), r3.2.1, r3.2.2.1, r3.2.2.2)
          else
            if a0 = (1 : Int32) then
              some ((r3.2.2.2 12 0), r3.2.1, r3.2.2.1, r3.2.2.2)
            else
              if a0 = (2 : Int32) then
                some ((r3.2.2.2 13 0), r3.2.1, r3.2.2.1, r3.2.2.2)
              else
                if a0 = (3 : Int32) then
                  some ((r3.2.2.1 3 0), r3.2.1, r3.2.2.1, r3.2.2.2)
                else
                  if a0 = (4 : Int32) then
                    some ((r3.2.2.1 4 0), r3.2.1, r3.2.2.1, r3.2.2.2)
                  else
                    some ((r3.2.2.1 5 0), r3.2.1, r3.2.2.1, r3.2.2.2))))))
def f_X5_toldOfCandle (a0 : Int32) (a1 : Int32) (K : Nat → Nat → Int32) (T : Nat → Nat → Int32) : Option (Int32) :=
  (if a1 = (0 : Int32) then
    (cd_rd (T 0) 12 a0).bind (fun v2 =>
      some v2)
  else
    if a1 = (1 : Int32) then
      (f_X3_isLit a0 T).bind (fun r3 =>
        ((if r3 = 0 then
          some (0 : Int32)
        else
          some (1 : Int32))).bind (fun (x4 : Int32) =>
          some x4))
    else
      if a1 = (2 : Int32) then
        (cd_rd (T 1) 12 a0).bind (fun v5 =>
          some v5)
      else
        if a1 = (3 : Int32) then
          (cd_rd (T 2) 12 a0).bind (fun v6 =>
            some v6)
        else
          if a1 = (4 : Int32) then
            (cd_rd (T 3) 12 a0).bind (fun v7 =>
              some v7)
          else
            if a1 = (5 : Int32) then
              (cd_rd (T 4) 12 a0).bind (fun v8 =>
                some v8)
            else
              if a1 = (6 : Int32) then
                (cd_rd (T 5) 12 a0).bind (fun v9 =>
                  some v9)
              else
                if a1 = (7 : Int32) then
                  (f_X3_burnOf a0 T).bind (fun r10 =>
                    some r10)
                else
                  some (-2 : Int32))
def f_X5_told (a0 : Int32) (K : Nat → Nat → Int32) (T : Nat → Nat → Int32) (P : Nat → Nat → Int32) : Option (Int32) :=
  (f_X5_within a0 (10 : Int32) (15 : Int32)).bind (fun r1 =>
    (if r1 = 0 then
      (f_X5_within a0 (100 : Int32) (219 : Int32)).bind (fun r3 =>
        (if r3 = 0 then
          (if a0 = (0 : Int32) then
            some (P 1 0)
          else
            if a0 = (1 : Int32) then
              some (T 11 0)
            else
              if a0 = (2 : Int32) then
                some (T 12 0)
              else
                if a0 = (3 : Int32) then
                  some (T 13 0)
                else
                  if a0 = (4 : Int32) then
                    some (T 10 0)
                  else
                    some (-2 : Int32))
        else
          (f_X5_toldOfCandle ((a0 - (100 : Int32)) / (10 : Int32)) (a0 - a0 / (10 : Int32) * (10 : Int32)) K T).bind (fun r6 =>
            some r6)))
    else
      (cd_rd (T 7) 6 (a0 - (10 : Int32))).bind (fun v7 =>
        some v7)))
def f_X5_trims_b36 (a0 : Int32) (a1 : Int32) (T : (Nat → Nat → Int32)) (v5 : Int32) (z6 : Int32) : Option (((Int32) ⊕ (Unit)) ⊕ (Int32)) :=
  (if (9 : Int32) < (v5 + z6) then
    some (Sum.inl (Sum.inr ()))
  else
    (f_X3_minutesLeftTrimmed a0 (v5 + z6) T).bind (fun r8 =>
      (if r8 < a1 then
        some (Sum.inr (z6 + (1 : Int32)))
      else
        some (Sum.inl (Sum.inl z6)))))
def f_X5_trims (a0 : Int32) (a1 : Int32) (K : Nat → Nat → Int32) (T : Nat → Nat → Int32) : Option (Int32) :=
  (f_X5_isCandle a0).bind (fun r1 =>
    (if r1 = 0 then
      some (-1 : Int32)
    else
      (f_X5_within a1 (1 : Int32) (999 : Int32)).bind (fun r3 =>
        (if r3 = 0 then
          some (-2 : Int32)
        else
          (cd_rd (T 1) 12 a0).bind (fun v5 =>
            (cd_iter cd_N (f_X5_trims_b36 a0 a1 T v5) (0 : Int32)).bind (fun (x6 : (Int32) ⊕ (Unit)) => Sum.elim (fun r => some r) (fun (t6 : Unit) =>
              some (-6 : Int32)) x6))))))
def f_X5_wipe (K : Nat → Nat → Int32) (P : Nat → Nat → Int32) : Option (Int32 × (Nat → Nat → Int32)) :=
  some ((P 1 0), (cd_fld P 1 (0 : Int32)))
def f_X5_year (a0 : Int32) (a1 : Int32) (a2 : Int32) (K : Nat → Nat → Int32) (T : Nat → Nat → Int32) (Y : Nat → Nat → Int32) (S : Nat → Nat → Int32) : Option (Int32 × (Nat → Nat → Int32) × (Nat → Nat → Int32)) :=
  (f_X5_within a0 (0 : Int32) (9999 : Int32)).bind (fun r1 =>
    (if r1 = 0 then
      some ((-2 : Int32), Y, S)
    else
      (f_X5_within a1 (1 : Int32) (99 : Int32)).bind (fun r3 =>
        (if r3 = 0 then
          some ((-2 : Int32), Y, S)
        else
          (f_X5_within a2 (0 : Int32) (2 : Int32)).bind (fun r5 =>
            (if r5 = 0 then
              some ((-2 : Int32), Y, S)
            else
              (f_X1_draws a0 a1 Y S T).bind (fun r7 =>
                (if a2 = (0 : Int32) then
                  some ((r7.1 3 0), r7.1, r7.2)
                else
                  if a2 = (1 : Int32) then
                    (f_X3_waxOfAll r7.2).bind (fun r9 =>
                      some (r9, r7.1, r7.2))
                  else
                    (f_J6_bitCount (r7.2 11 0)).bind (fun r10 =>
                      some (r10, r7.1, r7.2))))))))))
def f_X6_in (a0 : Int32) (a1 : Int32) (a2 : Int32) : Option (Int32) :=
  ((if a0 < a1 then
    some (0 : Int32)
  else
    (if a2 < a0 then
      some (0 : Int32)
    else
      some (1 : Int32)))).bind (fun (x1 : Int32) =>
    (cd_zb x1).bind (fun u2 =>
      some x1))
def f_X6_asNow_b2 (z1 : Int32 × (Nat → Nat → Int32)) : Option (((Nat → Nat → Int32)) ⊕ (Int32 × (Nat → Nat → Int32))) :=
  (if (69 : Int32) ≤ z1.1 then
    some (Sum.inl z1.2)
  else
    (cd_rd (z1.2 0) 69 z1.1).bind (fun v3 =>
      (cd_ix 69 z1.1).bind (fun j4 =>
        some (Sum.inr ((z1.1 + (1 : Int32)), (cd_set z1.2 1 j4 v3))))))
def f_X6_asNow (M : Nat → Nat → Int32) : Option ((Nat → Nat → Int32)) :=
  (cd_iter cd_N f_X6_asNow_b2 ((0 : Int32), M)).bind (fun (t1 : (Nat → Nat → Int32)) =>
    some (cd_fld (cd_fld (cd_fld t1 8 (0 : Int32)) 9 (-6 : Int32)) 10 (-6 : Int32)))
def f_X6_burnOf (a0 : Int32) (M : Nat → Nat → Int32) : Option (Int32) :=
  (cd_rd (M 1) 69 ((36 : Int32) + a0)).bind (fun v1 =>
    (cd_rd (M 1) 69 ((24 : Int32) + a0)).bind (fun v2 =>
      ((if (1 : Int32) ≤ (((1 : Int32) + v1) - v2) then
        some (((1 : Int32) + v1) - v2)
      else
        some (1 : Int32))).bind (fun (x3 : Int32) =>
        some x3)))
def f_X6_lastsOf (a0 : Int32) (M : Nat → Nat → Int32) : Option (Int32 × (Nat → Nat → Int32)) :=
  (f_X6_asNow M).bind (fun r1 =>
    (f_X6_burnOf a0 r1).bind (fun r2 =>
      (cd_rd (r1 0) 69 a0).bind (fun v3 =>
        (cd_nz r2).bind (fun u4 =>
          some ((((v3 + r2) - (1 : Int32)) / r2), r1)))))
def f_X6_bits_b4 (a0 : Int32) (z1 : Int32 × Int32) : Option ((Int32) ⊕ (Int32 × Int32)) :=
  (if (12 : Int32) ≤ z1.2 then
    some (Sum.inl z1.1)
  else
    some (Sum.inr ((z1.1 + ((a0 >>> (z1.2 &&& 31)) &&& (1 : Int32))), (z1.2 + (1 : Int32)))))
def f_X6_bits (a0 : Int32) : Option (Int32) :=
  (cd_iter cd_N (f_X6_bits_b4 a0) ((0 : Int32), (0 : Int32))).bind (fun (t1 : Int32) =>
    some t1)
def f_X6_isIn (a0 : Int32) (a1 : Int32) : Option (Int32) :=
  ((if ((a0 >>> (a1 &&& 31)) &&& (1 : Int32)) = (1 : Int32) then
    some (1 : Int32)
  else
    some (0 : Int32))).bind (fun (x1 : Int32) =>
    (cd_zb x1).bind (fun u2 =>
      some x1))
def f_X6_canRead_b18 (a0 : Int32) (M : (Nat → Nat → Int32)) (z1 : Int32 × Int32) (z3 : Int32 × Int32) : Option ((Int32) ⊕ (Int32 × Int32)) :=
  (if (12 : Int32) ≤ z3.2 then
    some (Sum.inl z3.1)
  else
    (f_X6_isIn a0 z3.2).bind (fun r5 =>
      ((if r5 = 0 then
        some (0 : Int32)
      else
        (cd_rd (M 15) 12 z3.2).bind (fun v7 =>
          (cd_rd (M 15) 12 z1.2).bind (fun v8 =>
            (if v8 < v7 then
              some (0 : Int32)
            else
              some (1 : Int32)))))).bind (fun (x6 : Int32) =>
        some (Sum.inr ((z3.1 + x6), (z3.2 + (1 : Int32)))))))
def f_X6_canRead_b5 (a0 : Int32) (a1 : Int32) (M : (Nat → Nat → Int32)) (z1 : Int32 × Int32) : Option ((Int32) ⊕ (Int32 × Int32)) :=
  (if (12 : Int32) ≤ z1.2 then
    some (Sum.inl z1.1)
  else
    (cd_iter cd_N (f_X6_canRead_b18 a0 M z1) ((0 : Int32), (0 : Int32))).bind (fun (t3 : Int32) =>
      (if z1.1 = 0 then
        some (Sum.inr ((0 : Int32), (z1.2 + (1 : Int32))))
      else
        (f_X6_isIn a0 z1.2).bind (fun r11 =>
          (if r11 = 0 then
            some (Sum.inr ((1 : Int32), (z1.2 + (1 : Int32))))
          else
            (cd_rd (M 0) 69 (66 : Int32)).bind (fun v13 =>
              (f_X6_isIn v13 z1.2).bind (fun r14 =>
                (if r14 = 0 then
                  some (Sum.inr ((0 : Int32), (z1.2 + (1 : Int32))))
                else
                  (cd_rd (M 15) 12 z1.2).bind (fun v16 =>
                    (if v16 < (t3 * a1) then
                      some (Sum.inr ((0 : Int32), (z1.2 + (1 : Int32))))
                    else
                      some (Sum.inr ((1 : Int32), (z1.2 + (1 : Int32))))))))))))))
def f_X6_canRead (a0 : Int32) (a1 : Int32) (M : Nat → Nat → Int32) : Option (Int32) :=
  (cd_iter cd_N (f_X6_canRead_b5 a0 a1 M) ((1 : Int32), (0 : Int32))).bind (fun (t1 : Int32) =>
    (cd_zb t1).bind (fun u18 =>
      some t1))
def f_X6_accounts_b24 (z5 : Int32 × (Nat → Nat → Int32)) : Option (((Nat → Nat → Int32)) ⊕ (Int32 × (Nat → Nat → Int32))) :=
  (if (12 : Int32) ≤ z5.1 then
    some (Sum.inl z5.2)
  else
    (f_X6_lastsOf z5.1 z5.2).bind (fun r7 =>
      (cd_ix 12 z5.1).bind (fun j8 =>
        some (Sum.inr ((z5.1 + (1 : Int32)), (cd_set r7.2 15 j8 r7.1))))))
def f_X6_accounts_b52 (a0 : Int32) (t5 : (Nat → Nat → Int32)) (z9 : Int32 × Int32) : Option ((Int32) ⊕ (Int32 × Int32)) :=
  (if (4096 : Int32) ≤ z9.2 then
    some (Sum.inl z9.1)
  else
    (f_X6_bits z9.2).bind (fun r11 =>
      (f_X6_bits z9.1).bind (fun r12 =>
        (if r11 ≤ r12 then
          some (Sum.inr (z9.1, (z9.2 + (1 : Int32))))
        else
          (f_X6_canRead z9.2 a0 t5).bind (fun r14 =>
            (if r14 = 0 then
              some (Sum.inr (z9.1, (z9.2 + (1 : Int32))))
            else
              some (Sum.inr (z9.2, (z9.2 + (1 : Int32))))))))))
def f_X6_accounts (a0 : Int32) (a1 : Int32) (M : Nat → Nat → Int32) : Option (Int32 × (Nat → Nat → Int32)) :=
  (f_X6_in a0 (1 : Int32) (99 : Int32)).bind (fun r1 =>
    (if r1 = 0 then
      some ((-2 : Int32), M)
    else
      (f_X6_in a1 (0 : Int32) (1 : Int32)).bind (fun r3 =>
        (if r3 = 0 then
          some ((-2 : Int32), M)
        else
          (cd_iter cd_N f_X6_accounts_b24 ((0 : Int32), M)).bind (fun (t5 : (Nat → Nat → Int32)) =>
            (cd_iter cd_N (f_X6_accounts_b52 a0 t5) ((0 : Int32), (0 : Int32))).bind (fun (t9 : Int32) =>
              ((if a1 = (1 : Int32) then
                some t9
              else
                (f_X6_bits t9).bind (fun r17 =>
                  some r17))).bind (fun (x16 : Int32) =>
                some (x16, t5))))))))
def f_X6_isLit (a0 : Int32) (M : Nat → Nat → Int32) : Option (Int32) :=
  (cd_rd (M 1) 69 (66 : Int32)).bind (fun v1 =>
    (f_X6_isIn v1 a0).bind (fun r2 =>
      (cd_zb r2).bind (fun u3 =>
        some r2)))
def f_X6_askFor (a0 : Int32) (M : Nat → Nat → Int32) : Option (Int32 × (Nat → Nat → Int32)) :=
  (f_X6_isLit a0 M).bind (fun r1 =>
    (if r1 = 0 then
      some ((2 : Int32), M)
    else
      (cd_rd (M 1) 69 ((12 : Int32) + a0)).bind (fun v3 =>
        (if v3 = 0 then
          some ((5 : Int32), M)
        else
          (cd_rd (M 3) 12 a0).bind (fun v5 =>
            (cd_rd (M 2) 12 a0).bind (fun v6 =>
              (cd_rd (M 1) 69 ((12 : Int32) + a0)).bind (fun v7 =>
                (cd_rd (M 1) 69 ((60 : Int32) + v5)).bind (fun v8 =>
                  ((if v8 ≤ v7 then
                    (cd_rd (M 1) 69 ((60 : Int32) + v5)).bind (fun v25 =>
                      some v25)
                  else
                    (cd_rd (M 1) 69 ((12 : Int32) + a0)).bind (fun v26 =>
                      some v26))).bind (fun (x9 : Int32) =>
                    (if ((60 : Int32) + v5) = ((60 : Int32) + v6) then
                      (cd_rd (M 1) 69 ((12 : Int32) + a0)).bind (fun v11 =>
                        (cd_ix 69 ((12 : Int32) + a0)).bind (fun j12 =>
                          (cd_rd (upd (M 1) j12 (v11 - x9)) 69 ((60 : Int32) + v5)).bind (fun v13 =>
                            (cd_ix 69 ((60 : Int32) + v5)).bind (fun j14 =>
                              (cd_rd (upd (upd (M 1) j12 (v11 - x9)) j14 (v13 - x9)) 69 ((60 : Int32) + v6)).bind (fun v15 =>
                                (cd_ix 69 ((60 : Int32) + v6)).bind (fun j16 =>
                                  some ((0 : Int32), (cd_fld (cd_set (cd_set (cd_set M 1 j12 (v11 - x9)) 1 j14 (v13 - x9)) 1 j16 (v15 + x9)) 8 ((M 8 0) + x9)))))))))
                    else
                      (cd_rd (M 1) 69 ((60 : Int32) + v6)).bind (fun v17 =>
                        (if (v17 + x9) ≤ (9999 : Int32) then
                          (cd_rd (M 1) 69 ((12 : Int32) + a0)).bind (fun v19 =>
                            (cd_ix 69 ((12 : Int32) + a0)).bind (fun j20 =>
                              (cd_rd (upd (M 1) j20 (v19 - x9)) 69 ((60 : Int32) + v5)).bind (fun v21 =>
                                (cd_ix 69 ((60 : Int32) + v5)).bind (fun j22 =>
                                  (cd_rd (upd (upd (M 1) j20 (v19 - x9)) j22 (v21 - x9)) 69 ((60 : Int32) + v6)).bind (fun v23 =>
                                    (cd_ix 69 ((60 : Int32) + v6)).bind (fun j24 =>
                                      some ((0 : Int32), (cd_fld (cd_set (cd_set (cd_set M 1 j20 (v19 - x9)) 1 j22 (v21 - x9)) 1 j24 (v23 + x9)) 8 ((M 8 0) + x9)))))))))
                        else
                          some ((6 : Int32), M)))))))))))))
def f_X6_isLetter (a0 : Int32) : Option (Int32) :=
  (f_X6_in a0 (97 : Int32) (108 : Int32)).bind (fun r1 =>
    (cd_zb r1).bind (fun u2 =>
      some r1))
def f_X6_faultOf_b4 (M : (Nat → Nat → Int32)) (z1 : Int32 × Int32) : Option (((Int32) ⊕ (Int32)) ⊕ (Int32 × Int32)) :=
  (if (M 6 0) ≤ z1.2 then
    some (Sum.inl (Sum.inr z1.1))
  else
    (cd_rd (M 7) 60 z1.2).bind (fun v3 =>
      ((if z1.1 = 0 then
        (f_X6_isLetter v3).bind (fun r6 =>
          ((if r6 = 0 then
            (if v3 = (119 : Int32) then
              some (1 : Int32)
            else
              (if v3 = (46 : Int32) then
                some (1 : Int32)
              else
                some (0 : Int32)))
          else
            some (1 : Int32))).bind (fun (x7 : Int32) =>
            (f_X6_isLetter v3).bind (fun r8 =>
              (if r8 = 0 then
                (if v3 = (119 : Int32) then
                  some (x7, (3 : Int32))
                else
                  some (x7, (0 : Int32)))
              else
                some (x7, (1 : Int32))))))
      else
        (if z1.1 = (1 : Int32) then
          ((if v3 = (42 : Int32) then
            some (1 : Int32)
          else
            (if v3 = (45 : Int32) then
              some (1 : Int32)
            else
              (if v3 = (33 : Int32) then
                some (1 : Int32)
              else
                (if v3 = (94 : Int32) then
                  some (1 : Int32)
                else
                  (if v3 = (62 : Int32) then
                    some (1 : Int32)
                  else
                    some (0 : Int32))))))).bind (fun (x14 : Int32) =>
            (if v3 = (62 : Int32) then
              some (x14, (2 : Int32))
            else
              some (x14, (0 : Int32))))
        else
          (if z1.1 = (4 : Int32) then
            (f_X6_in v3 (48 : Int32) (57 : Int32)).bind (fun r21 =>
              some (r21, (0 : Int32)))
          else
            (f_X6_isLetter v3).bind (fun r22 =>
              (if z1.1 = (3 : Int32) then
                some (r22, (4 : Int32))
              else
                some (r22, (0 : Int32)))))))).bind (fun (x4 : Int32 × Int32) =>
        (if x4.1 = 0 then
          some (Sum.inl (Sum.inl z1.2))
        else
          some (Sum.inr (x4.2, (z1.2 + (1 : Int32))))))))
def f_X6_faultOf (M : Nat → Nat → Int32) : Option (Int32) :=
  (cd_iter cd_N (f_X6_faultOf_b4 M) ((0 : Int32), (0 : Int32))).bind (fun (x1 : (Int32) ⊕ (Int32)) => Sum.elim (fun r => some r) (fun (t1 : Int32) =>
    ((if t1 = 0 then
      some (-6 : Int32)
    else
      some (M 6 0))).bind (fun (x24 : Int32) =>
      some x24)) x1)
def f_X6_minute_b29 (z5 : Int32 × (Nat → Nat → Int32)) : Option (((Nat → Nat → Int32)) ⊕ (Int32 × (Nat → Nat → Int32))) :=
  (if (12 : Int32) ≤ z5.1 then
    some (Sum.inl z5.2)
  else
    (f_X6_isLit z5.1 z5.2).bind (fun r7 =>
      (if r7 = 0 then
        some (Sum.inr ((z5.1 + (1 : Int32)), z5.2))
      else
        (cd_rd (z5.2 1) 69 z5.1).bind (fun v9 =>
          (f_X6_burnOf z5.1 z5.2).bind (fun r10 =>
            (cd_ix 69 z5.1).bind (fun j11 =>
              (cd_rd (upd (z5.2 1) j11 (v9 - r10)) 69 z5.1).bind (fun v12 =>
                (if 0 < v12 then
                  some (Sum.inr ((z5.1 + (1 : Int32)), (cd_set z5.2 1 j11 (v9 - r10))))
                else
                  (cd_ix 69 z5.1).bind (fun j14 =>
                    (cd_ix 69 ((12 : Int32) + z5.1)).bind (fun j15 =>
                      (cd_rd (upd (upd (upd (z5.2 1) j11 (v9 - r10)) j14 (0 : Int32)) j15 (0 : Int32)) 69 (66 : Int32)).bind (fun v16 =>
                        (cd_ix 69 (66 : Int32)).bind (fun j17 =>
                          some (Sum.inr ((z5.1 + (1 : Int32)), (cd_fld (cd_set (cd_set (cd_set (cd_set z5.2 1 j11 (v9 - r10)) 1 j14 (0 : Int32)) 1 j15 (0 : Int32)) 1 j17 (v16 &&& (((1 : Int32) <<< (z5.1 &&& 31)) ^^^ (-1 : Int32)))) 11 ((z5.2 11 0) ||| ((1 : Int32) <<< (z5.1 &&& 31))))))))))))))))))
def f_X6_minute (M : Nat → Nat → Int32) : Option (Int32 × (Nat → Nat → Int32)) :=
  (cd_rd (M 1) 69 (68 : Int32)).bind (fun v1 =>
    (if v1 = (999 : Int32) then
      some ((8 : Int32), M)
    else
      (cd_rd (M 1) 69 (68 : Int32)).bind (fun v3 =>
        (cd_ix 69 (68 : Int32)).bind (fun j4 =>
          (cd_iter cd_N f_X6_minute_b29 ((0 : Int32), (cd_set M 1 j4 (v3 + (1 : Int32))))).bind (fun (t5 : (Nat → Nat → Int32)) =>
            some ((0 : Int32), t5))))))
def f_X6_blow (a0 : Int32) (a1 : Int32) (M : Nat → Nat → Int32) : Option (Int32 × (Nat → Nat → Int32)) :=
  (cd_rd (M 1) 69 ((36 : Int32) + a0)).bind (fun v1 =>
    (if v1 = a1 then
      some ((7 : Int32), M)
    else
      (cd_ix 69 ((36 : Int32) + a0)).bind (fun j3 =>
        some ((0 : Int32), (cd_set M 1 j3 a1)))))
def f_X6_leaveJoined_b2 (a0 : Int32) (z1 : Int32 × (Nat → Nat → Int32)) : Option (((Nat → Nat → Int32)) ⊕ (Int32 × (Nat → Nat → Int32))) :=
  (if (12 : Int32) ≤ z1.1 then
    some (Sum.inl z1.2)
  else
    (cd_rd (z1.2 1) 69 ((48 : Int32) + z1.1)).bind (fun v3 =>
      (cd_ix 69 ((48 : Int32) + z1.1)).bind (fun j4 =>
        some (Sum.inr ((z1.1 + (1 : Int32)), (cd_set z1.2 1 j4 (v3 &&& (((1 : Int32) <<< (a0 &&& 31)) ^^^ (-1 : Int32)))))))))
def f_X6_leaveJoined (a0 : Int32) (M : Nat → Nat → Int32) : Option ((Nat → Nat → Int32)) :=
  (cd_iter cd_N (f_X6_leaveJoined_b2 a0) ((0 : Int32), M)).bind (fun (t1 : (Nat → Nat → Int32)) =>
    (cd_ix 69 ((48 : Int32) + a0)).bind (fun j5 =>
      some (cd_set t1 1 j5 ((1 : Int32) <<< (a0 &&& 31)))))
def f_X6_strike (a0 : Int32) (M : Nat → Nat → Int32) : Option (Int32 × (Nat → Nat → Int32)) :=
  (cd_rd (M 1) 69 a0).bind (fun v1 =>
    (if v1 = 0 then
      some ((1 : Int32), M)
    else
      (f_X6_isLit a0 M).bind (fun r3 =>
        (if r3 = 0 then
          (cd_rd (M 1) 69 (67 : Int32)).bind (fun v5 =>
            (if v5 = 0 then
              some ((3 : Int32), M)
            else
              (cd_rd (M 1) 69 (67 : Int32)).bind (fun v7 =>
                (cd_ix 69 (67 : Int32)).bind (fun j8 =>
                  (cd_rd (upd (M 1) j8 (v7 - (1 : Int32))) 69 (66 : Int32)).bind (fun v9 =>
                    (cd_ix 69 (66 : Int32)).bind (fun j10 =>
                      (f_X6_leaveJoined a0 (cd_set (cd_set M 1 j8 (v7 - (1 : Int32))) 1 j10 (v9 ||| ((1 : Int32) <<< (a0 &&& 31))))).bind (fun r11 =>
                        some ((0 : Int32), r11))))))))
        else
          some ((2 : Int32), M)))))
def f_X6_snuffOut (a0 : Int32) (M : Nat → Nat → Int32) : Option (Int32 × (Nat → Nat → Int32)) :=
  (f_X6_isLit a0 M).bind (fun r1 =>
    (if r1 = 0 then
      some ((2 : Int32), M)
    else
      (cd_rd (M 1) 69 (66 : Int32)).bind (fun v3 =>
        (cd_rd (M 1) 69 ((48 : Int32) + a0)).bind (fun v4 =>
          (cd_ix 69 (66 : Int32)).bind (fun j5 =>
            some ((0 : Int32), (cd_set M 1 j5 (v3 &&& (v4 ^^^ (-1 : Int32))))))))))
def f_X6_trim (a0 : Int32) (M : Nat → Nat → Int32) : Option (Int32 × (Nat → Nat → Int32)) :=
  (cd_rd (M 1) 69 ((24 : Int32) + a0)).bind (fun v1 =>
    (if v1 = (9 : Int32) then
      some ((5 : Int32), M)
    else
      (cd_rd (M 1) 69 ((24 : Int32) + a0)).bind (fun v3 =>
        (cd_ix 69 ((24 : Int32) + a0)).bind (fun j4 =>
          some ((0 : Int32), (cd_set M 1 j4 (v3 + (1 : Int32))))))))
def f_X6_lightFrom_b81 (v10 : Int32) (v11 : Int32) (z12 : Int32 × (Nat → Nat → Int32)) : Option (((Nat → Nat → Int32)) ⊕ (Int32 × (Nat → Nat → Int32))) :=
  (if (12 : Int32) ≤ z12.1 then
    some (Sum.inl z12.2)
  else
    (f_X6_isIn (v10 ||| v11) z12.1).bind (fun r14 =>
      ((if r14 = 0 then
        (cd_rd (z12.2 1) 69 ((48 : Int32) + z12.1)).bind (fun v17 =>
          some v17)
      else
        some (v10 ||| v11))).bind (fun (x15 : Int32) =>
        (cd_ix 69 ((48 : Int32) + z12.1)).bind (fun j16 =>
          some (Sum.inr ((z12.1 + (1 : Int32)), (cd_set z12.2 1 j16 x15)))))))
def f_X6_lightFrom_b81_23 (v21 : Int32) (v22 : Int32) (z23 : Int32 × (Nat → Nat → Int32)) : Option (((Nat → Nat → Int32)) ⊕ (Int32 × (Nat → Nat → Int32))) :=
  (if (12 : Int32) ≤ z23.1 then
    some (Sum.inl z23.2)
  else
    (f_X6_isIn (v21 ||| v22) z23.1).bind (fun r25 =>
      ((if r25 = 0 then
        (cd_rd (z23.2 1) 69 ((48 : Int32) + z23.1)).bind (fun v28 =>
          some v28)
      else
        some (v21 ||| v22))).bind (fun (x26 : Int32) =>
        (cd_ix 69 ((48 : Int32) + z23.1)).bind (fun j27 =>
          some (Sum.inr ((z23.1 + (1 : Int32)), (cd_set z23.2 1 j27 x26)))))))
def f_X6_lightFrom (a0 : Int32) (a1 : Int32) (M : Nat → Nat → Int32) : Option (Int32 × (Nat → Nat → Int32)) :=
  (cd_rd (M 1) 69 a1).bind (fun v1 =>
    (if v1 = 0 then
      some ((1 : Int32), M)
    else
      (f_X6_isLit a0 M).bind (fun r3 =>
        (if r3 = 0 then
          some ((2 : Int32), M)
        else
          (f_X6_isLit a1 M).bind (fun r5 =>
            (if r5 = 0 then
              (if a1 = (a0 + (1 : Int32)) then
                (cd_rd (M 1) 69 (66 : Int32)).bind (fun v8 =>
                  (cd_ix 69 (66 : Int32)).bind (fun j9 =>
                    (cd_rd (upd (M 1) j9 (v8 ||| ((1 : Int32) <<< (a1 &&& 31)))) 69 ((48 : Int32) + a0)).bind (fun v10 =>
                      (cd_rd (upd (M 1) j9 (v8 ||| ((1 : Int32) <<< (a1 &&& 31)))) 69 ((48 : Int32) + a1)).bind (fun v11 =>
                        (cd_iter cd_N (f_X6_lightFrom_b81 v10 v11) ((0 : Int32), (cd_set M 1 j9 (v8 ||| ((1 : Int32) <<< (a1 &&& 31)))))).bind (fun (t12 : (Nat → Nat → Int32)) =>
                          some ((0 : Int32), t12))))))
              else
                (if a1 = (a0 - (1 : Int32)) then
                  (cd_rd (M 1) 69 (66 : Int32)).bind (fun v19 =>
                    (cd_ix 69 (66 : Int32)).bind (fun j20 =>
                      (cd_rd (upd (M 1) j20 (v19 ||| ((1 : Int32) <<< (a1 &&& 31)))) 69 ((48 : Int32) + a0)).bind (fun v21 =>
                        (cd_rd (upd (M 1) j20 (v19 ||| ((1 : Int32) <<< (a1 &&& 31)))) 69 ((48 : Int32) + a1)).bind (fun v22 =>
                          (cd_iter cd_N (f_X6_lightFrom_b81_23 v21 v22) ((0 : Int32), (cd_set M 1 j20 (v19 ||| ((1 : Int32) <<< (a1 &&& 31)))))).bind (fun (t23 : (Nat → Nat → Int32)) =>
                            some ((0 : Int32), t23))))))
                else
                  some ((4 : Int32), M)))
            else
              some ((2 : Int32), M)))))))
def f_X6_candleAct (a0 : Int32) (a1 : Int32) (a2 : Int32) (M : Nat → Nat → Int32) : Option (Int32 × (Nat → Nat → Int32)) :=
  (if a1 = (33 : Int32) then
    (f_X6_askFor a0 M).bind (fun r2 =>
      some (r2.1, r2.2))
  else
    if a1 = (42 : Int32) then
      (f_X6_strike a0 M).bind (fun r3 =>
        some (r3.1, r3.2))
    else
      if a1 = (45 : Int32) then
        (f_X6_snuffOut a0 M).bind (fun r4 =>
          some (r4.1, r4.2))
      else
        if a1 = (94 : Int32) then
          (f_X6_trim a0 M).bind (fun r5 =>
            some (r5.1, r5.2))
        else
          (f_X6_lightFrom a0 (a2 - (97 : Int32)) M).bind (fun r6 =>
            some (r6.1, r6.2)))
def f_X6_goNights_b163 (z7 : Int32 × (Nat → Nat → Int32)) : Option (((Nat → Nat → Int32)) ⊕ (Int32 × (Nat → Nat → Int32))) :=
  (if z7.1 < 0 then
    some (Sum.inl z7.2)
  else
    (if (z7.2 9 0) < 0 then
      (f_X6_isIn (z7.2 11 0) z7.1).bind (fun r10 =>
        (if r10 = 0 then
          some (Sum.inr ((z7.1 + (-1 : Int32)), z7.2))
        else
          some (Sum.inr ((z7.1 + (-1 : Int32)), (cd_fld (cd_fld z7.2 9 (z7.2 13 0)) 10 z7.1)))))
    else
      (if (z7.2 9 0) = (z7.2 13 0) then
        (f_X6_isIn (z7.2 11 0) z7.1).bind (fun r13 =>
          (if r13 = 0 then
            some (Sum.inr ((z7.1 + (-1 : Int32)), z7.2))
          else
            some (Sum.inr ((z7.1 + (-1 : Int32)), (cd_fld (cd_fld z7.2 9 (z7.2 13 0)) 10 z7.1)))))
      else
        some (Sum.inl z7.2))))
def f_X6_goNights_b11 (z2 : Int32 × (Nat → Nat → Int32)) : Option (((Int32 × (Nat → Nat → Int32)) ⊕ ((Nat → Nat → Int32))) ⊕ (Int32 × (Nat → Nat → Int32))) :=
  (if (z2.2 6 0) ≤ z2.1 then
    some (Sum.inl (Sum.inr z2.2))
  else
    (cd_rd (z2.2 7) 60 z2.1).bind (fun v4 =>
      ((if v4 = (46 : Int32) then
        (f_X6_minute (cd_fld z2.2 11 (0 : Int32))).bind (fun r15 =>
          some ((z2.1 + (1 : Int32)), (cd_fld r15.2 12 r15.1)))
      else
        (if v4 = (119 : Int32) then
          (cd_rd (z2.2 7) 60 (z2.1 + (1 : Int32))).bind (fun v17 =>
            (cd_rd (z2.2 7) 60 (z2.1 + (2 : Int32))).bind (fun v18 =>
              (f_X6_blow (v17 - (97 : Int32)) (v18 - (48 : Int32)) (cd_fld z2.2 11 (0 : Int32))).bind (fun r19 =>
                some ((z2.1 + (3 : Int32)), (cd_fld r19.2 12 r19.1)))))
        else
          (cd_rd (z2.2 7) 60 (z2.1 + (1 : Int32))).bind (fun v20 =>
            ((if v20 = (62 : Int32) then
              (cd_rd (z2.2 7) 60 (z2.1 + (2 : Int32))).bind (fun v24 =>
                some v24)
            else
              some (97 : Int32))).bind (fun (x21 : Int32) =>
              (f_X6_candleAct (v4 - (97 : Int32)) v20 x21 (cd_fld z2.2 11 (0 : Int32))).bind (fun r22 =>
                ((if v20 = (62 : Int32) then
                  some (3 : Int32)
                else
                  some (2 : Int32))).bind (fun (x23 : Int32) =>
                  some ((z2.1 + x23), (cd_fld r22.2 12 r22.1))))))))).bind (fun (x5 : Int32 × (Nat → Nat → Int32)) =>
        (if (x5.2 12 0) ≤ 0 then
          (cd_iter cd_N f_X6_goNights_b163 ((11 : Int32), x5.2)).bind (fun (t7 : (Nat → Nat → Int32)) =>
            some (Sum.inr (x5.1, (cd_fld t7 13 ((t7 13 0) + (1 : Int32))))))
        else
          some (Sum.inl (Sum.inl ((x5.2 13 0), x5.2)))))))
def f_X6_goNights (M : Nat → Nat → Int32) : Option (Int32 × (Nat → Nat → Int32)) :=
  (f_X6_asNow M).bind (fun r1 =>
    (cd_iter cd_N f_X6_goNights_b11 ((0 : Int32), (cd_fld r1 13 (0 : Int32)))).bind (fun (x2 : (Int32 × (Nat → Nat → Int32)) ⊕ ((Nat → Nat → Int32))) => Sum.elim (fun r => some r) (fun (t2 : (Nat → Nat → Int32)) =>
      some ((-6 : Int32), t2)) x2))
def f_X6_barOfNights (M : Nat → Nat → Int32) : Option (Int32 × (Nat → Nat → Int32)) :=
  (f_X6_faultOf M).bind (fun r1 =>
    ((if 0 ≤ r1 then
      some ((-5 : Int32), M)
    else
      (f_X6_goNights M).bind (fun r3 =>
        (if r3.1 < 0 then
          some ((0 : Int32), r3.2)
        else
          some ((-5 : Int32), r3.2))))).bind (fun (x2 : Int32 × (Nat → Nat → Int32)) =>
      some (x2.1, x2.2)))
def f_X6_isCandle (a0 : Int32) : Option (Int32) :=
  (f_X6_in a0 (0 : Int32) (11 : Int32)).bind (fun r1 =>
    (cd_zb r1).bind (fun u2 =>
      some r1))
def f_X6_behind (a0 : Int32) (a1 : Int32) (M : Nat → Nat → Int32) : Option (Int32 × (Nat → Nat → Int32)) :=
  (f_X6_isCandle a0).bind (fun r1 =>
    (if r1 = 0 then
      some ((-1 : Int32), M)
    else
      (f_X6_in a1 (0 : Int32) (3 : Int32)).bind (fun r3 =>
        (if r3 = 0 then
          some ((-2 : Int32), M)
        else
          (f_X6_barOfNights M).bind (fun r5 =>
            (if 0 ≤ r5.1 then
              ((if a1 = 0 then
                (cd_rd (r5.2 1) 69 a0).bind (fun v8 =>
                  some v8)
              else
                (if a1 = (1 : Int32) then
                  (cd_rd (r5.2 1) 69 (66 : Int32)).bind (fun v10 =>
                    some ((v10 >>> (a0 &&& 31)) &&& (1 : Int32)))
                else
                  (if a1 = (2 : Int32) then
                    (cd_rd (r5.2 1) 69 ((12 : Int32) + a0)).bind (fun v12 =>
                      some v12)
                  else
                    (cd_rd (r5.2 1) 69 ((24 : Int32) + a0)).bind (fun v13 =>
                      some v13))))).bind (fun (x7 : Int32) =>
                some (x7, r5.2))
            else
              some ((-5 : Int32), r5.2)))))))
def f_X6_better (a0 : Int32) (a1 : Int32) (M : Nat → Nat → Int32) : Option ((Nat → Nat → Int32)) :=
  (cd_rd (M 14) 288 a0).bind (fun v1 =>
    ((if v1 ≤ a1 then
      (cd_rd (M 14) 288 a0).bind (fun v4 =>
        some v4)
    else
      some a1)).bind (fun (x2 : Int32) =>
      (cd_ix 288 a0).bind (fun j3 =>
        some (cd_set M 14 j3 x2))))
def f_X6_isOne (a0 : Int32) : Option (Int32) :=
  (f_X6_in a0 (0 : Int32) (5 : Int32)).bind (fun r1 =>
    (cd_zb r1).bind (fun u2 =>
      some r1))
def f_X6_candle_b71 (z14 : Int32 × (Nat → Nat → Int32)) : Option (((Nat → Nat → Int32)) ⊕ (Int32 × (Nat → Nat → Int32))) :=
  (if (60 : Int32) ≤ z14.1 then
    some (Sum.inl z14.2)
  else
    (cd_rd (z14.2 1) 69 z14.1).bind (fun v16 =>
      (cd_ix 69 z14.1).bind (fun j17 =>
        some (Sum.inr ((z14.1 + (1 : Int32)), (cd_set z14.2 0 j17 v16))))))
def f_X6_candle (a0 : Int32) (a1 : Int32) (a2 : Int32) (a3 : Int32) (a4 : Int32) (M : Nat → Nat → Int32) : Option (Int32 × (Nat → Nat → Int32)) :=
  (f_X6_isCandle a0).bind (fun r1 =>
    (if r1 = 0 then
      some ((-1 : Int32), M)
    else
      (f_X6_isOne a2).bind (fun r3 =>
        (if r3 = 0 then
          some ((-1 : Int32), M)
        else
          (f_X6_isOne a3).bind (fun r5 =>
            (if r5 = 0 then
              some ((-1 : Int32), M)
            else
              (f_X6_in a1 (0 : Int32) (999 : Int32)).bind (fun r7 =>
                (if r7 = 0 then
                  some ((-2 : Int32), M)
                else
                  (f_X6_in a4 (0 : Int32) (999 : Int32)).bind (fun r9 =>
                    (if r9 = 0 then
                      some ((-2 : Int32), M)
                    else
                      (cd_rd (M 0) 69 a0).bind (fun v11 =>
                        (f_X6_asNow M).bind (fun r12 =>
                          (f_X6_leaveJoined a0 r12).bind (fun r13 =>
                            (cd_iter cd_N f_X6_candle_b71 ((48 : Int32), r13)).bind (fun (t14 : (Nat → Nat → Int32)) =>
                              (cd_ix 69 a0).bind (fun j18 =>
                                (cd_ix 69 ((12 : Int32) + a0)).bind (fun j19 =>
                                  (cd_ix 69 ((24 : Int32) + a0)).bind (fun j20 =>
                                    (cd_rd (upd (upd (upd (t14 0) j18 a1) j19 a4) j20 (0 : Int32)) 69 (66 : Int32)).bind (fun v21 =>
                                      (cd_ix 69 (66 : Int32)).bind (fun j22 =>
                                        (cd_ix 12 a0).bind (fun j23 =>
                                          (cd_ix 12 a0).bind (fun j24 =>
                                            some (v11, (cd_set (cd_set (cd_set (cd_set (cd_set (cd_set t14 0 j18 a1) 0 j19 a4) 0 j20 (0 : Int32)) 0 j22 (v21 &&& (((1 : Int32) <<< (a0 &&& 31)) ^^^ (-1 : Int32)))) 2 j23 a2) 3 j24 a3)))))))))))))))))))))))
def f_X6_isAsked (a0 : Int32) (M : Nat → Nat → Int32) : Option (Int32) :=
  (cd_rd (M 0) 69 (66 : Int32)).bind (fun v1 =>
    (f_X6_isIn v1 a0).bind (fun r2 =>
      ((if r2 = 0 then
        some (0 : Int32)
      else
        (cd_rd (M 0) 69 ((12 : Int32) + a0)).bind (fun v5 =>
          (if v5 ≤ 0 then
            some (0 : Int32)
          else
            some (1 : Int32))))).bind (fun (x3 : Int32) =>
        (cd_zb x3).bind (fun u4 =>
          some x3))))
def f_X6_comes (a0 : Int32) (a1 : Int32) (M : Nat → Nat → Int32) : Option (Int32 × (Nat → Nat → Int32)) :=
  (f_X6_isAsked a0 M).bind (fun r1 =>
    ((if r1 = 0 then
      some (a1, M)
    else
      (f_X6_lastsOf a0 M).bind (fun r3 =>
        (if a1 < r3.1 then
          some (a1, r3.2)
        else
          some ((1000000 : Int32), r3.2))))).bind (fun (x2 : Int32 × (Nat → Nat → Int32)) =>
      some (x2.1, x2.2)))
def f_X6_done_b12 (z3 : Int32 × (Nat → Nat → Int32)) : Option (((Nat → Nat → Int32)) ⊕ (Int32 × (Nat → Nat → Int32))) :=
  (if (69 : Int32) ≤ z3.1 then
    some (Sum.inl z3.2)
  else
    (cd_rd (z3.2 1) 69 z3.1).bind (fun v5 =>
      (cd_ix 69 z3.1).bind (fun j6 =>
        some (Sum.inr ((z3.1 + (1 : Int32)), (cd_set z3.2 0 j6 v5))))))
def f_X6_done (M : Nat → Nat → Int32) : Option (Int32 × (Nat → Nat → Int32)) :=
  (f_X6_barOfNights M).bind (fun r1 =>
    (if 0 ≤ r1.1 then
      (cd_iter cd_N f_X6_done_b12 ((0 : Int32), r1.2)).bind (fun (t3 : (Nat → Nat → Int32)) =>
        some ((t3 13 0), (cd_fld t3 6 (0 : Int32))))
    else
      some ((-5 : Int32), r1.2)))
def f_X6_draught (a0 : Int32) (a1 : Int32) (M : Nat → Nat → Int32) : Option (Int32 × (Nat → Nat → Int32)) :=
  (f_X6_isCandle a0).bind (fun r1 =>
    (if r1 = 0 then
      some ((-1 : Int32), M)
    else
      (f_X6_in a1 (0 : Int32) (9 : Int32)).bind (fun r3 =>
        (if r3 = 0 then
          some ((-2 : Int32), M)
        else
          (cd_rd (M 0) 69 ((36 : Int32) + a0)).bind (fun v5 =>
            (cd_ix 69 ((36 : Int32) + a0)).bind (fun j6 =>
              some (v5, (cd_set M 0 j6 a1))))))))
def f_X6_fault (M : Nat → Nat → Int32) : Option (Int32) :=
  (f_X6_faultOf M).bind (fun r1 =>
    some r1)
def f_X6_forget (M : Nat → Nat → Int32) : Option (Int32 × (Nat → Nat → Int32)) :=
  some ((M 4 0), (cd_fld M 4 (0 : Int32)))
def f_X6_has (a0 : Int32) (M : Nat → Nat → Int32) : Option (Int32 × (Nat → Nat → Int32)) :=
  (f_X6_isOne a0).bind (fun r1 =>
    (if r1 = 0 then
      some ((-1 : Int32), M)
    else
      (f_X6_barOfNights M).bind (fun r3 =>
        ((if 0 ≤ r3.1 then
          (cd_rd (r3.2 1) 69 ((60 : Int32) + a0)).bind (fun v5 =>
            some v5)
        else
          some (-5 : Int32))).bind (fun (x4 : Int32) =>
          some (x4, r3.2)))))
def f_X6_image_b19 (a0 : Int32) (z3 : Int32 × (Nat → Nat → Int32)) : Option (((Nat → Nat → Int32)) ⊕ (Int32 × (Nat → Nat → Int32))) :=
  (if (69 : Int32) ≤ z3.1 then
    some (Sum.inl z3.2)
  else
    (cd_rd (z3.2 0) 69 z3.1).bind (fun v5 =>
      (cd_ix 240 (((120 : Int32) * a0) + z3.1)).bind (fun j6 =>
        some (Sum.inr ((z3.1 + (1 : Int32)), (cd_set z3.2 20 j6 v5))))))
def f_X6_image_b47 (a0 : Int32) (z7 : Int32 × (Nat → Nat → Int32)) : Option (((Nat → Nat → Int32)) ⊕ (Int32 × (Nat → Nat → Int32))) :=
  (if (12 : Int32) ≤ z7.1 then
    some (Sum.inl z7.2)
  else
    (cd_rd (z7.2 2) 12 z7.1).bind (fun v9 =>
      (cd_ix 240 ((((120 : Int32) * a0) + (69 : Int32)) + z7.1)).bind (fun j10 =>
        (cd_rd (z7.2 3) 12 z7.1).bind (fun v11 =>
          (cd_ix 240 ((((120 : Int32) * a0) + (81 : Int32)) + z7.1)).bind (fun j12 =>
            some (Sum.inr ((z7.1 + (1 : Int32)), (cd_set (cd_set z7.2 20 j10 v9) 20 j12 v11))))))))
def f_X6_image_b95 (a0 : Int32) (z13 : Int32 × (Nat → Nat → Int32)) : Option (((Nat → Nat → Int32)) ⊕ (Int32 × (Nat → Nat → Int32))) :=
  (if (16 : Int32) ≤ z13.1 then
    some (Sum.inl z13.2)
  else
    (cd_rd (z13.2 5) 16 z13.1).bind (fun v15 =>
      (cd_ix 240 ((((120 : Int32) * a0) + (93 : Int32)) + z13.1)).bind (fun j16 =>
        some (Sum.inr ((z13.1 + (1 : Int32)), (cd_set z13.2 20 j16 v15))))))
def f_X6_image (a0 : Int32) (M : Nat → Nat → Int32) : Option (Int32 × (Nat → Nat → Int32)) :=
  (f_X6_in a0 (0 : Int32) (1 : Int32)).bind (fun r1 =>
    (if r1 = 0 then
      some ((-2 : Int32), M)
    else
      (cd_iter cd_N (f_X6_image_b19 a0) ((0 : Int32), M)).bind (fun (t3 : (Nat → Nat → Int32)) =>
        (cd_iter cd_N (f_X6_image_b47 a0) ((0 : Int32), t3)).bind (fun (t7 : (Nat → Nat → Int32)) =>
          (cd_iter cd_N (f_X6_image_b95 a0) ((0 : Int32), t7)).bind (fun (t13 : (Nat → Nat → Int32)) =>
            (cd_ix 240 (((120 : Int32) * a0) + (110 : Int32))).bind (fun j17 =>
              (cd_ix 2 a0).bind (fun j18 =>
                some ((1 : Int32), (cd_set (cd_set t13 20 j17 (t13 4 0)) 21 j18 (1 : Int32))))))))))
def f_X6_lostBy (a0 : Int32) (a1 : Int32) (M : Nat → Nat → Int32) : Option (Int32) :=
  (f_X6_in (a1 - (a0 / (1000 : Int32))) (-(a0 - a0 / (10 : Int32) * (10 : Int32))) (a0 - a0 / (10 : Int32) * (10 : Int32))).bind (fun r1 =>
    ((if r1 = 0 then
      some (60 : Int32)
    else
      some ((a0 / (10 : Int32)) - (a0 / (10 : Int32)) / (100 : Int32) * (100 : Int32)))).bind (fun (x2 : Int32) =>
      (cd_rd (M 16) 12 a1).bind (fun v3 =>
        (cd_rd (M 0) 69 a1).bind (fun v4 =>
          ((if v4 ≤ (v3 * x2) then
            (cd_rd (M 0) 69 a1).bind (fun v6 =>
              some v6)
          else
            some (v3 * x2))).bind (fun (x5 : Int32) =>
            some x5)))))
def f_X6_isSneeze_b50 (a0 : Int32) (M : (Nat → Nat → Int32)) (z3 : Int32 × Int32) : Option ((Int32) ⊕ (Int32 × Int32)) :=
  (if (M 4 0) ≤ z3.2 then
    some (Sum.inl z3.1)
  else
    (if z3.1 = 0 then
      some (Sum.inl z3.1)
    else
      (cd_rd (M 5) 16 ((2 : Int32) * z3.2)).bind (fun v6 =>
        (f_X6_lostBy a0 v6 M).bind (fun r7 =>
          (cd_rd (M 5) 16 (((2 : Int32) * z3.2) + (1 : Int32))).bind (fun v8 =>
            (if r7 = v8 then
              some (Sum.inr ((1 : Int32), (z3.2 + (1 : Int32))))
            else
              some (Sum.inr ((0 : Int32), (z3.2 + (1 : Int32))))))))))
def f_X6_isSneeze (a0 : Int32) (M : Nat → Nat → Int32) : Option (Int32) :=
  (f_X6_in (a0 / (1000 : Int32)) (0 : Int32) (11 : Int32)).bind (fun r1 =>
    ((if r1 = 0 then
      some (0 : Int32)
    else
      (f_X6_in ((a0 / (10 : Int32)) - (a0 / (10 : Int32)) / (100 : Int32) * (100 : Int32)) (0 : Int32) (60 : Int32)).bind (fun r11 =>
        (if r11 = 0 then
          some (0 : Int32)
        else
          (f_X6_in (a0 - a0 / (10 : Int32) * (10 : Int32)) (0 : Int32) (3 : Int32)).bind (fun r13 =>
            (if r13 = 0 then
              some (0 : Int32)
            else
              some (1 : Int32))))))).bind (fun (x2 : Int32) =>
      (cd_iter cd_N (f_X6_isSneeze_b50 a0 M) (x2, (0 : Int32))).bind (fun (t3 : Int32) =>
        (cd_zb t3).bind (fun u10 =>
          some t3))))
def f_X6_joined (a0 : Int32) (M : Nat → Nat → Int32) : Option (Int32) :=
  (f_X6_isCandle a0).bind (fun r1 =>
    ((if r1 = 0 then
      some (-1 : Int32)
    else
      (cd_rd (M 0) 69 ((48 : Int32) + a0)).bind (fun v3 =>
        some (v3 &&& (((1 : Int32) <<< (a0 &&& 31)) ^^^ (-1 : Int32)))))).bind (fun (x2 : Int32) =>
      some x2))
def f_X6_jubilee_b24 (a0 : Int32) (M : (Nat → Nat → Int32)) (z3 : Int32 × Int32 × Int32 × Int32) : Option (((Int32) ⊕ (Int32)) ⊕ (Int32 × Int32 × Int32 × Int32)) :=
  (if (13 : Int32) ≤ z3.2.2.2 then
    some (Sum.inl (Sum.inr z3.1))
  else
    (if (12 : Int32) ≤ z3.2.2.2 then
      (if (12 : Int32) ≤ z3.2.2.2 then
        ((if z3.2.1 = 0 then
          some (0 : Int32)
        else
          (if z3.2.2.1 = 0 then
            some (1 : Int32)
          else
            some (0 : Int32)))).bind (fun (x7 : Int32) =>
          some (Sum.inr ((z3.1 + x7), (0 : Int32), (0 : Int32), (z3.2.2.2 + (1 : Int32)))))
      else
        (f_X6_isIn a0 z3.2.2.2).bind (fun r9 =>
          (if r9 = 0 then
            ((if z3.2.1 = 0 then
              some (0 : Int32)
            else
              (if z3.2.2.1 = 0 then
                some (1 : Int32)
              else
                some (0 : Int32)))).bind (fun (x11 : Int32) =>
              some (Sum.inr ((z3.1 + x11), (0 : Int32), (0 : Int32), (z3.2.2.2 + (1 : Int32)))))
          else
            some (Sum.inl (Sum.inl (-6 : Int32))))))
    else
      (cd_rd (M 0) 69 z3.2.2.2).bind (fun v13 =>
        (if v13 ≤ 0 then
          (if (12 : Int32) ≤ z3.2.2.2 then
            ((if z3.2.1 = 0 then
              some (0 : Int32)
            else
              (if z3.2.2.1 = 0 then
                some (1 : Int32)
              else
                some (0 : Int32)))).bind (fun (x16 : Int32) =>
              some (Sum.inr ((z3.1 + x16), (0 : Int32), (0 : Int32), (z3.2.2.2 + (1 : Int32)))))
          else
            (f_X6_isIn a0 z3.2.2.2).bind (fun r18 =>
              (if r18 = 0 then
                ((if z3.2.1 = 0 then
                  some (0 : Int32)
                else
                  (if z3.2.2.1 = 0 then
                    some (1 : Int32)
                  else
                    some (0 : Int32)))).bind (fun (x20 : Int32) =>
                  some (Sum.inr ((z3.1 + x20), (0 : Int32), (0 : Int32), (z3.2.2.2 + (1 : Int32)))))
              else
                some (Sum.inl (Sum.inl (-6 : Int32))))))
        else
          ((if z3.2.1 = 0 then
            (f_X6_isIn a0 z3.2.2.2).bind (fun r27 =>
              (if r27 = 0 then
                some (0 : Int32)
              else
                some (1 : Int32)))
          else
            some (1 : Int32))).bind (fun (x22 : Int32) =>
            (if z3.2.2.1 = 0 then
              (cd_rd (M 0) 69 (66 : Int32)).bind (fun v24 =>
                (f_X6_isIn v24 z3.2.2.2).bind (fun r25 =>
                  (if r25 = 0 then
                    some (Sum.inr (z3.1, x22, (0 : Int32), (z3.2.2.2 + (1 : Int32))))
                  else
                    some (Sum.inr (z3.1, x22, (1 : Int32), (z3.2.2.2 + (1 : Int32)))))))
            else
              some (Sum.inr (z3.1, x22, (1 : Int32), (z3.2.2.2 + (1 : Int32))))))))))
def f_X6_jubilee (a0 : Int32) (M : Nat → Nat → Int32) : Option (Int32) :=
  (f_X6_in a0 (0 : Int32) (4095 : Int32)).bind (fun r1 =>
    (if r1 = 0 then
      some (-2 : Int32)
    else
      (cd_iter cd_N (f_X6_jubilee_b24 a0 M) ((0 : Int32), (0 : Int32), (0 : Int32), (0 : Int32))).bind (fun (x3 : (Int32) ⊕ (Int32)) => Sum.elim (fun r => some r) (fun (t3 : Int32) =>
        some t3) x3)))
def f_X6_judge (a0 : Int32) (M : Nat → Nat → Int32) : Option (Int32 × (Nat → Nat → Int32)) :=
  (f_X6_in a0 (0 : Int32) (1 : Int32)).bind (fun r1 =>
    (if r1 = 0 then
      some ((-2 : Int32), M)
    else
      (f_X6_faultOf M).bind (fun r3 =>
        (if r3 < 0 then
          (f_X6_goNights M).bind (fun r5 =>
            ((if r5.1 < 0 then
              some r5.1
            else
              (if a0 = 0 then
                some r5.1
              else
                some (r5.2 12 0)))).bind (fun (x6 : Int32) =>
              some (x6, r5.2)))
        else
          some ((-5 : Int32), M)))))
def f_X6_lasts (a0 : Int32) (M : Nat → Nat → Int32) : Option (Int32 × (Nat → Nat → Int32)) :=
  (f_X6_isCandle a0).bind (fun r1 =>
    ((if r1 = 0 then
      some ((-1 : Int32), M)
    else
      (f_X6_lastsOf a0 M).bind (fun r3 =>
        some (r3.1, r3.2)))).bind (fun (x2 : Int32 × (Nat → Nat → Int32)) =>
      some (x2.1, x2.2)))
def f_X6_layBurns_b6 (z2 : Int32 × (Nat → Nat → Int32)) : Option (((Nat → Nat → Int32)) ⊕ (Int32 × (Nat → Nat → Int32))) :=
  (if (12 : Int32) ≤ z2.1 then
    some (Sum.inl z2.2)
  else
    (f_X6_burnOf z2.1 z2.2).bind (fun r4 =>
      (cd_ix 12 z2.1).bind (fun j5 =>
        some (Sum.inr ((z2.1 + (1 : Int32)), (cd_set z2.2 16 j5 r4))))))
def f_X6_layBurns (M : Nat → Nat → Int32) : Option ((Nat → Nat → Int32)) :=
  (f_X6_asNow M).bind (fun r1 =>
    (cd_iter cd_N f_X6_layBurns_b6 ((0 : Int32), r1)).bind (fun (t2 : (Nat → Nat → Int32)) =>
      some t2))
def f_X6_layRows_b17 (z4 : Int32 × (Nat → Nat → Int32)) : Option (((Nat → Nat → Int32)) ⊕ (Int32 × (Nat → Nat → Int32))) :=
  (if (32 : Int32) ≤ z4.1 then
    some (Sum.inl z4.2)
  else
    (cd_ix 32 z4.1).bind (fun j6 =>
      some (Sum.inr ((z4.1 + (1 : Int32)), (cd_set z4.2 19 j6 (0 : Int32))))))
def f_X6_layRows_b38 (z2 : Int32 × (Nat → Nat → Int32)) (z7 : Int32 × (Nat → Nat → Int32)) : Option (((Nat → Nat → Int32)) ⊕ (Int32 × (Nat → Nat → Int32))) :=
  (if z2.1 ≤ z7.1 then
    some (Sum.inl z7.2)
  else
    ((if z7.1 ≤ (1 : Int32) then
      some (0 : Int32)
    else
      some (z7.1 - (1 : Int32)))).bind (fun (x9 : Int32) =>
      ((if ((z2.1 - z7.1) - (2 : Int32)) ≤ 0 then
        some (0 : Int32)
      else
        some ((z2.1 - z7.1) - (2 : Int32)))).bind (fun (x10 : Int32) =>
        (cd_rd (z7.2 18) 13 x9).bind (fun v11 =>
          (cd_rd (z7.2 18) 13 x10).bind (fun v12 =>
            (cd_ix 32 (v11 ^^^ v12)).bind (fun j13 =>
              some (Sum.inr ((z7.1 + (1 : Int32)), (cd_set z7.2 19 j13 (1 : Int32))))))))))
def f_X6_layRows_b103 (t7 : (Nat → Nat → Int32)) (z14 : Int32) : Option ((Int32) ⊕ (Int32)) :=
  (cd_rd (t7 19) 32 z14).bind (fun v15 =>
    (if v15 = 0 then
      some (Sum.inl z14)
    else
      some (Sum.inr (z14 + (1 : Int32)))))
def f_X6_layRows_b9 (z2 : Int32 × (Nat → Nat → Int32)) : Option (((Nat → Nat → Int32)) ⊕ (Int32 × (Nat → Nat → Int32))) :=
  (if (13 : Int32) ≤ z2.1 then
    some (Sum.inl z2.2)
  else
    (cd_iter cd_N f_X6_layRows_b17 ((0 : Int32), z2.2)).bind (fun (t4 : (Nat → Nat → Int32)) =>
      (cd_iter cd_N (f_X6_layRows_b38 z2) ((0 : Int32), t4)).bind (fun (t7 : (Nat → Nat → Int32)) =>
        (cd_iter cd_N (f_X6_layRows_b103 t7) (0 : Int32)).bind (fun (t14 : Int32) =>
          (cd_ix 13 z2.1).bind (fun j17 =>
            some (Sum.inr ((z2.1 + (1 : Int32)), (cd_set t7 18 j17 t14))))))))
def f_X6_layRows (M : Nat → Nat → Int32) : Option ((Nat → Nat → Int32)) :=
  (cd_ix 13 (0 : Int32)).bind (fun j1 =>
    (cd_iter cd_N f_X6_layRows_b9 ((1 : Int32), (cd_set M 18 j1 (0 : Int32)))).bind (fun (t2 : (Nat → Nat → Int32)) =>
      some t2))
def f_X6_look_b38 (z6 : Int32 × (Nat → Nat → Int32)) : Option (((Nat → Nat → Int32)) ⊕ (Int32 × (Nat → Nat → Int32))) :=
  (if (1000 : Int32) ≤ z6.1 then
    some (Sum.inl z6.2)
  else
    (cd_ix 1000 z6.1).bind (fun j8 =>
      some (Sum.inr ((z6.1 + (1 : Int32)), (cd_set z6.2 17 j8 (0 : Int32))))))
def f_X6_look_b63 (z4 : Int32 × Int32 × Int32 × (Nat → Nat → Int32)) (z9 : Int32 × Int32 × (Nat → Nat → Int32)) : Option ((Int32 × (Nat → Nat → Int32)) ⊕ (Int32 × Int32 × (Nat → Nat → Int32))) :=
  (if (12000 : Int32) ≤ z9.2.1 then
    some (Sum.inl (z9.1, z9.2.2))
  else
    (f_X6_isSneeze z9.2.1 z9.2.2).bind (fun r11 =>
      (if r11 = 0 then
        some (Sum.inr (z9.1, (z9.2.1 + (1 : Int32)), z9.2.2))
      else
        (f_X6_lostBy z9.2.1 z4.2.2.1 z9.2.2).bind (fun r13 =>
          (cd_rd (z9.2.2 17) 1000 r13).bind (fun v14 =>
            (cd_ix 1000 r13).bind (fun j15 =>
              (cd_rd (upd (z9.2.2 17) j15 (v14 + (1 : Int32))) 1000 r13).bind (fun v16 =>
                (if v16 ≤ z9.1 then
                  some (Sum.inr (z9.1, (z9.2.1 + (1 : Int32)), (cd_set z9.2.2 17 j15 (v14 + (1 : Int32)))))
                else
                  (cd_rd (upd (z9.2.2 17) j15 (v14 + (1 : Int32))) 1000 r13).bind (fun v18 =>
                    some (Sum.inr (v18, (z9.2.1 + (1 : Int32)), (cd_set z9.2.2 17 j15 (v14 + (1 : Int32))))))))))))))
def f_X6_look_b25 (z4 : Int32 × Int32 × Int32 × (Nat → Nat → Int32)) : Option ((Int32 × Int32 × (Nat → Nat → Int32)) ⊕ (Int32 × Int32 × Int32 × (Nat → Nat → Int32))) :=
  (if (12 : Int32) ≤ z4.2.2.1 then
    some (Sum.inl (z4.1, z4.2.1, z4.2.2.2))
  else
    (cd_iter cd_N f_X6_look_b38 ((0 : Int32), z4.2.2.2)).bind (fun (t6 : (Nat → Nat → Int32)) =>
      (cd_iter cd_N (f_X6_look_b63 z4) ((0 : Int32), (0 : Int32), t6)).bind (fun (t9 : Int32 × (Nat → Nat → Int32)) =>
        ((if t9.1 ≤ 0 then
          some (0 : Int32)
        else
          (if z4.2.1 ≤ t9.1 then
            some (0 : Int32)
          else
            some (1 : Int32)))).bind (fun (x19 : Int32) =>
          ((if x19 = 0 then
            some z4.1
          else
            some z4.2.2.1)).bind (fun (x20 : Int32) =>
            (if x19 = 0 then
              some (Sum.inr (x20, z4.2.1, (z4.2.2.1 + (1 : Int32)), t9.2))
            else
              some (Sum.inr (x20, t9.1, (z4.2.2.1 + (1 : Int32)), t9.2))))))))
def f_X6_look (a0 : Int32) (M : Nat → Nat → Int32) : Option (Int32 × (Nat → Nat → Int32)) :=
  (f_X6_in a0 (0 : Int32) (1 : Int32)).bind (fun r1 =>
    (if r1 = 0 then
      some ((-2 : Int32), M)
    else
      (f_X6_layBurns M).bind (fun r3 =>
        (cd_iter cd_N f_X6_look_b25 ((-6 : Int32), (1000000 : Int32), (0 : Int32), r3)).bind (fun (t4 : Int32 × Int32 × (Nat → Nat → Int32)) =>
          ((if t4.1 < 0 then
            some t4.1
          else
            (if a0 = 0 then
              some t4.1
            else
              some t4.2.1))).bind (fun (x23 : Int32) =>
            some (x23, t4.2.2))))))
def f_X6_lowest_b6 (z1 : Int64 × Int64) : Option ((Int64) ⊕ (Int64 × Int64)) :=
  (if (lg_cmp z1.2 (0 : Int64)) = 0 then
    some (Sum.inl z1.1)
  else
    (cd_nzl z1.2).bind (fun u3 =>
      some (Sum.inr (z1.2, (z1.1 - z1.1 / z1.2 * z1.2)))))
def f_X6_lowest (a0 : Int64) (a1 : Int64) (a2 : Int32) : Option (Int64) :=
  (cd_iter cd_N f_X6_lowest_b6 (a0, a1)).bind (fun (t1 : Int64) =>
    ((if a2 = 0 then
      (cd_nzl t1).bind (fun u5 =>
        some (a0 / t1))
    else
      (cd_nzl t1).bind (fun u6 =>
        some (a1 / t1)))).bind (fun (x4 : Int64) =>
      some x4))
def f_X6_matches (a0 : Int32) (M : Nat → Nat → Int32) : Option (Int32 × (Nat → Nat → Int32)) :=
  (f_X6_in a0 (0 : Int32) (99 : Int32)).bind (fun r1 =>
    (if r1 = 0 then
      some ((-2 : Int32), M)
    else
      (cd_rd (M 0) 69 (67 : Int32)).bind (fun v3 =>
        (cd_ix 69 (67 : Int32)).bind (fun j4 =>
          some (v3, (cd_set M 0 j4 a0))))))
def f_X6_may_b13 (a0 : Int32) (M : (Nat → Nat → Int32)) (z3 : Int32 × Int32) : Option ((Int32) ⊕ (Int32 × Int32)) :=
  (if (12 : Int32) ≤ z3.2 then
    some (Sum.inl z3.1)
  else
    (cd_rd (M 0) 69 (66 : Int32)).bind (fun v5 =>
      (f_X6_isIn v5 z3.2).bind (fun r6 =>
        ((if r6 = 0 then
          some (0 : Int32)
        else
          (cd_rd (M 2) 12 z3.2).bind (fun v8 =>
            (if v8 = a0 then
              (cd_rd (M 0) 69 ((12 : Int32) + z3.2)).bind (fun v10 =>
                (if v10 ≤ 0 then
                  some (0 : Int32)
                else
                  some ((1 : Int32) <<< (z3.2 &&& 31))))
            else
              some (0 : Int32))))).bind (fun (x7 : Int32) =>
          some (Sum.inr ((z3.1 ||| x7), (z3.2 + (1 : Int32))))))))
def f_X6_may (a0 : Int32) (M : Nat → Nat → Int32) : Option (Int32) :=
  (f_X6_isOne a0).bind (fun r1 =>
    (if r1 = 0 then
      some (-1 : Int32)
    else
      (cd_iter cd_N (f_X6_may_b13 a0 M) ((0 : Int32), (0 : Int32))).bind (fun (t3 : Int32) =>
        some t3)))
def f_X6_moths_b73 (a1 : Int32) (a2 : Int32) (z8 : Int64 × Int64 × Int32) : Option ((Int64 × Int64) ⊕ (Int64 × Int64 × Int32)) :=
  (if a2 ≤ z8.2.2 then
    some (Sum.inl (z8.1, z8.2.1))
  else
    some (Sum.inr ((z8.1 * (10 : Int64)), (z8.2.1 * ((10 : Int64) - (a1.toInt64))), (z8.2.2 + (1 : Int32)))))
def f_X6_moths_b110 (a0 : Int32) (a2 : Int32) (z10 : Int32 × Int32 × (Nat → Nat → Int32)) : Option ((Int32 × (Nat → Nat → Int32)) ⊕ (Int32 × Int32 × (Nat → Nat → Int32))) :=
  (if (12 : Int32) ≤ z10.2.1 then
    some (Sum.inl (z10.1, z10.2.2))
  else
    ((if a0 = (-1 : Int32) then
      (cd_rd (z10.2.2 0) 69 (66 : Int32)).bind (fun v13 =>
        (f_X6_isIn v13 z10.2.1).bind (fun r14 =>
          (if r14 = 0 then
            some ((0 : Int32), z10.2.2)
          else
            (f_X6_lastsOf z10.2.1 z10.2.2).bind (fun r16 =>
              (if r16.1 ≤ a2 then
                some ((0 : Int32), r16.2)
              else
                some ((1 : Int32), r16.2))))))
    else
      (if z10.2.1 = a0 then
        (cd_rd (z10.2.2 0) 69 (66 : Int32)).bind (fun v19 =>
          (f_X6_isIn v19 z10.2.1).bind (fun r20 =>
            (if r20 = 0 then
              some ((0 : Int32), z10.2.2)
            else
              (f_X6_lastsOf z10.2.1 z10.2.2).bind (fun r22 =>
                (if r22.1 ≤ a2 then
                  some ((0 : Int32), r22.2)
                else
                  some ((1 : Int32), r22.2))))))
      else
        some ((0 : Int32), z10.2.2)))).bind (fun (x12 : Int32 × (Nat → Nat → Int32)) =>
      some (Sum.inr ((z10.1 + x12.1), (z10.2.1 + (1 : Int32)), x12.2))))
def f_X6_moths_b73_36 (a1 : Int32) (a2 : Int32) (z36 : Int64 × Int64 × Int32) : Option ((Int64 × Int64) ⊕ (Int64 × Int64 × Int32)) :=
  (if a2 ≤ z36.2.2 then
    some (Sum.inl (z36.1, z36.2.1))
  else
    some (Sum.inr ((z36.1 * (10 : Int64)), (z36.2.1 * ((10 : Int64) - (a1.toInt64))), (z36.2.2 + (1 : Int32)))))
def f_X6_moths_b110_38 (a0 : Int32) (a2 : Int32) (z38 : Int32 × Int32 × (Nat → Nat → Int32)) : Option ((Int32 × (Nat → Nat → Int32)) ⊕ (Int32 × Int32 × (Nat → Nat → Int32))) :=
  (if (12 : Int32) ≤ z38.2.1 then
    some (Sum.inl (z38.1, z38.2.2))
  else
    ((if a0 = (-1 : Int32) then
      (cd_rd (z38.2.2 0) 69 (66 : Int32)).bind (fun v41 =>
        (f_X6_isIn v41 z38.2.1).bind (fun r42 =>
          (if r42 = 0 then
            some ((0 : Int32), z38.2.2)
          else
            (f_X6_lastsOf z38.2.1 z38.2.2).bind (fun r44 =>
              (if r44.1 ≤ a2 then
                some ((0 : Int32), r44.2)
              else
                some ((1 : Int32), r44.2))))))
    else
      (if z38.2.1 = a0 then
        (cd_rd (z38.2.2 0) 69 (66 : Int32)).bind (fun v47 =>
          (f_X6_isIn v47 z38.2.1).bind (fun r48 =>
            (if r48 = 0 then
              some ((0 : Int32), z38.2.2)
            else
              (f_X6_lastsOf z38.2.1 z38.2.2).bind (fun r50 =>
                (if r50.1 ≤ a2 then
                  some ((0 : Int32), r50.2)
                else
                  some ((1 : Int32), r50.2))))))
      else
        some ((0 : Int32), z38.2.2)))).bind (fun (x40 : Int32 × (Nat → Nat → Int32)) =>
      some (Sum.inr ((z38.1 + x40.1), (z38.2.1 + (1 : Int32)), x40.2))))
def f_X6_moths (a0 : Int32) (a1 : Int32) (a2 : Int32) (a3 : Int32) (M : Nat → Nat → Int32) : Option (Int64 × (Nat → Nat → Int32)) :=
  (if a0 = (-1 : Int32) then
    (f_X6_in a1 (0 : Int32) (10 : Int32)).bind (fun r2 =>
      (if r2 = 0 then
        some ((-1000000000000000002 : Int64), M)
      else
        (f_X6_in a2 (0 : Int32) (15 : Int32)).bind (fun r4 =>
          (if r4 = 0 then
            some ((-1000000000000000002 : Int64), M)
          else
            (f_X6_in a3 (0 : Int32) (1 : Int32)).bind (fun r6 =>
              (if r6 = 0 then
                some ((-1000000000000000002 : Int64), M)
              else
                (cd_iter cd_N (f_X6_moths_b73 a1 a2) ((1 : Int64), (1 : Int64), (0 : Int32))).bind (fun (t8 : Int64 × Int64) =>
                  (cd_iter cd_N (f_X6_moths_b110 a0 a2) ((0 : Int32), (0 : Int32), M)).bind (fun (t10 : Int32 × (Nat → Nat → Int32)) =>
                    (f_X6_lowest ((t10.1.toInt64) * t8.2) t8.1 a3).bind (fun r24 =>
                      some (r24, t10.2))))))))))
  else
    (f_X6_isCandle a0).bind (fun r25 =>
      (if r25 = 0 then
        some ((-1000000000000000001 : Int64), M)
      else
        (cd_rd (M 0) 69 (66 : Int32)).bind (fun v27 =>
          (f_X6_isIn v27 a0).bind (fun r28 =>
            (if r28 = 0 then
              some ((-1000000000000000001 : Int64), M)
            else
              (f_X6_in a1 (0 : Int32) (10 : Int32)).bind (fun r30 =>
                (if r30 = 0 then
                  some ((-1000000000000000002 : Int64), M)
                else
                  (f_X6_in a2 (0 : Int32) (15 : Int32)).bind (fun r32 =>
                    (if r32 = 0 then
                      some ((-1000000000000000002 : Int64), M)
                    else
                      (f_X6_in a3 (0 : Int32) (1 : Int32)).bind (fun r34 =>
                        (if r34 = 0 then
                          some ((-1000000000000000002 : Int64), M)
                        else
                          (cd_iter cd_N (f_X6_moths_b73_36 a1 a2) ((1 : Int64), (1 : Int64), (0 : Int32))).bind (fun (t36 : Int64 × Int64) =>
                            (cd_iter cd_N (f_X6_moths_b110_38 a0 a2) ((0 : Int32), (0 : Int32), M)).bind (fun (t38 : Int32 × (Nat → Nat → Int32)) =>
                              (f_X6_lowest ((t38.1.toInt64) * t36.2) t36.1 a3).bind (fun r52 =>
                                some (r52, t38.2))))))))))))))))
def f_X6_net_b14 (a0 : Int32) (M : (Nat → Nat → Int32)) (z3 : Int32 × Int32) : Option ((Int32) ⊕ (Int32 × Int32)) :=
  (if (12 : Int32) ≤ z3.2 then
    some (Sum.inl z3.1)
  else
    (cd_rd (M 0) 69 (66 : Int32)).bind (fun v5 =>
      (f_X6_isIn v5 z3.2).bind (fun r6 =>
        (if r6 = 0 then
          some (Sum.inr (z3.1, (z3.2 + (1 : Int32))))
        else
          (cd_rd (M 2) 12 z3.2).bind (fun v8 =>
            ((if v8 = a0 then
              (cd_rd (M 0) 69 ((12 : Int32) + z3.2)).bind (fun v13 =>
                some v13)
            else
              some (0 : Int32))).bind (fun (x9 : Int32) =>
              (cd_rd (M 3) 12 z3.2).bind (fun v10 =>
                ((if v10 = a0 then
                  (cd_rd (M 0) 69 ((12 : Int32) + z3.2)).bind (fun v12 =>
                    some v12)
                else
                  some (0 : Int32))).bind (fun (x11 : Int32) =>
                  some (Sum.inr (((z3.1 + x9) - x11), (z3.2 + (1 : Int32))))))))))))
def f_X6_net (a0 : Int32) (M : Nat → Nat → Int32) : Option (Int32) :=
  (f_X6_isOne a0).bind (fun r1 =>
    (if r1 = 0 then
      some (-1 : Int32)
    else
      (cd_iter cd_N (f_X6_net_b14 a0 M) ((100000 : Int32), (0 : Int32))).bind (fun (t3 : Int32) =>
        some t3)))
def f_X6_purse (a0 : Int32) (a1 : Int32) (M : Nat → Nat → Int32) : Option (Int32 × (Nat → Nat → Int32)) :=
  (f_X6_isOne a0).bind (fun r1 =>
    (if r1 = 0 then
      some ((-1 : Int32), M)
    else
      (f_X6_in a1 (0 : Int32) (9999 : Int32)).bind (fun r3 =>
        (if r3 = 0 then
          some ((-2 : Int32), M)
        else
          (cd_rd (M 0) 69 ((60 : Int32) + a0)).bind (fun v5 =>
            (cd_ix 69 ((60 : Int32) + a0)).bind (fun j6 =>
              some (v5, (cd_set M 0 j6 a1))))))))
def f_X6_restore_b31 (a0 : Int32) (z5 : Int32 × (Nat → Nat → Int32)) : Option (((Nat → Nat → Int32)) ⊕ (Int32 × (Nat → Nat → Int32))) :=
  (if (69 : Int32) ≤ z5.1 then
    some (Sum.inl z5.2)
  else
    (cd_rd (z5.2 20) 240 (((120 : Int32) * a0) + z5.1)).bind (fun v7 =>
      (cd_ix 69 z5.1).bind (fun j8 =>
        some (Sum.inr ((z5.1 + (1 : Int32)), (cd_set z5.2 0 j8 v7))))))
def f_X6_restore_b59 (a0 : Int32) (z9 : Int32 × (Nat → Nat → Int32)) : Option (((Nat → Nat → Int32)) ⊕ (Int32 × (Nat → Nat → Int32))) :=
  (if (12 : Int32) ≤ z9.1 then
    some (Sum.inl z9.2)
  else
    (cd_rd (z9.2 20) 240 ((((120 : Int32) * a0) + (69 : Int32)) + z9.1)).bind (fun v11 =>
      (cd_ix 12 z9.1).bind (fun j12 =>
        (cd_rd (z9.2 20) 240 ((((120 : Int32) * a0) + (81 : Int32)) + z9.1)).bind (fun v13 =>
          (cd_ix 12 z9.1).bind (fun j14 =>
            some (Sum.inr ((z9.1 + (1 : Int32)), (cd_set (cd_set z9.2 2 j12 v11) 3 j14 v13))))))))
def f_X6_restore_b107 (a0 : Int32) (z15 : Int32 × (Nat → Nat → Int32)) : Option (((Nat → Nat → Int32)) ⊕ (Int32 × (Nat → Nat → Int32))) :=
  (if (16 : Int32) ≤ z15.1 then
    some (Sum.inl z15.2)
  else
    (cd_rd (z15.2 20) 240 ((((120 : Int32) * a0) + (93 : Int32)) + z15.1)).bind (fun v17 =>
      (cd_ix 16 z15.1).bind (fun j18 =>
        some (Sum.inr ((z15.1 + (1 : Int32)), (cd_set z15.2 5 j18 v17))))))
def f_X6_restore (a0 : Int32) (M : Nat → Nat → Int32) : Option (Int32 × (Nat → Nat → Int32)) :=
  (f_X6_in a0 (0 : Int32) (1 : Int32)).bind (fun r1 =>
    (if r1 = 0 then
      some ((-2 : Int32), M)
    else
      (cd_rd (M 21) 2 a0).bind (fun v3 =>
        (if v3 = 0 then
          some ((-3 : Int32), M)
        else
          (cd_iter cd_N (f_X6_restore_b31 a0) ((0 : Int32), M)).bind (fun (t5 : (Nat → Nat → Int32)) =>
            (cd_iter cd_N (f_X6_restore_b59 a0) ((0 : Int32), t5)).bind (fun (t9 : (Nat → Nat → Int32)) =>
              (cd_iter cd_N (f_X6_restore_b107 a0) ((0 : Int32), t9)).bind (fun (t15 : (Nat → Nat → Int32)) =>
                (cd_rd (t15 20) 240 (((120 : Int32) * a0) + (110 : Int32))).bind (fun v19 =>
                  some ((1 : Int32), (cd_fld t15 4 v19))))))))))
def f_X6_roundBy_b2 (z1 : Int32 × (Nat → Nat → Int32)) : Option (((Nat → Nat → Int32)) ⊕ (Int32 × (Nat → Nat → Int32))) :=
  (if (288 : Int32) ≤ z1.1 then
    some (Sum.inl z1.2)
  else
    (cd_ix 288 z1.1).bind (fun j3 =>
      some (Sum.inr ((z1.1 + (1 : Int32)), (cd_set z1.2 14 j3 (1000000 : Int32))))))
def f_X6_roundBy_b143 (z6 : Int32 × Int32 × (Nat → Nat → Int32)) (z8 : Int32 × Int32 × (Nat → Nat → Int32)) (z10 : Int32 × Int32) : Option ((Int32) ⊕ (Int32 × Int32)) :=
  (if (12 : Int32) ≤ z10.2 then
    some (Sum.inl z10.1)
  else
    (if z10.1 = 0 then
      some (Sum.inr ((0 : Int32), (z10.2 + (1 : Int32))))
    else
      (f_X6_in z10.2 z8.2.1 ((z8.2.1 + z6.2.1) - (1 : Int32))).bind (fun r13 =>
        (if r13 = 0 then
          (f_X6_isAsked z10.2 z8.2.2).bind (fun r15 =>
            (if r15 = 0 then
              some (Sum.inr ((1 : Int32), (z10.2 + (1 : Int32))))
            else
              some (Sum.inr ((0 : Int32), (z10.2 + (1 : Int32))))))
        else
          some (Sum.inr ((1 : Int32), (z10.2 + (1 : Int32))))))))
def f_X6_roundBy_b192 (z6 : Int32 × Int32 × (Nat → Nat → Int32)) (z8 : Int32 × Int32 × (Nat → Nat → Int32)) (t10 : Int32) (z17 : Int32 × Int32 × (Nat → Nat → Int32)) : Option ((Int32 × (Nat → Nat → Int32)) ⊕ (Int32 × Int32 × (Nat → Nat → Int32))) :=
  (if (2 : Int32) ≤ z17.2.1 then
    some (Sum.inl (z17.1, z17.2.2))
  else
    (cd_rd (z17.2.2 14) 288 (((2 : Int32) * (((12 : Int32) * z8.2.1) + ((z8.2.1 + z6.2.1) - (1 : Int32)))) + z17.2.1)).bind (fun v19 =>
      (if (1000000 : Int32) ≤ v19 then
        some (Sum.inr (z17.1, (z17.2.1 + (1 : Int32)), z17.2.2))
      else
        ((if t10 = 0 then
          some z17.1
        else
          (if z17.1 ≤ v19 then
            some z17.1
          else
            some v19))).bind (fun (x21 : Int32) =>
          ((if z17.2.1 = 0 then
            some (v19 + (1 : Int32))
          else
            some (v19 + z6.2.1))).bind (fun (x22 : Int32) =>
            ((if z8.2.1 ≤ 0 then
              some z17.2.2
            else
              (f_X6_comes (z8.2.1 - (1 : Int32)) x22 z17.2.2).bind (fun r28 =>
                (f_X6_better ((2 : Int32) * (((12 : Int32) * (z8.2.1 - (1 : Int32))) + ((z8.2.1 + z6.2.1) - (1 : Int32)))) r28.1 r28.2).bind (fun r29 =>
                  some r29)))).bind (fun (x23 : (Nat → Nat → Int32)) =>
              ((if z17.2.1 = (1 : Int32) then
                some (v19 + (1 : Int32))
              else
                some (v19 + z6.2.1))).bind (fun (x24 : Int32) =>
                (if (11 : Int32) ≤ ((z8.2.1 + z6.2.1) - (1 : Int32)) then
                  some (Sum.inr (x21, (z17.2.1 + (1 : Int32)), x23))
                else
                  (f_X6_comes (((z8.2.1 + z6.2.1) - (1 : Int32)) + (1 : Int32)) x24 x23).bind (fun r26 =>
                    (f_X6_better (((2 : Int32) * ((((12 : Int32) * z8.2.1) + ((z8.2.1 + z6.2.1) - (1 : Int32))) + (1 : Int32))) + (1 : Int32)) r26.1 r26.2).bind (fun r27 =>
                      some (Sum.inr (x21, (z17.2.1 + (1 : Int32)), r27))))))))))))
def f_X6_roundBy_b106 (z6 : Int32 × Int32 × (Nat → Nat → Int32)) (z8 : Int32 × Int32 × (Nat → Nat → Int32)) : Option ((Int32 × (Nat → Nat → Int32)) ⊕ (Int32 × Int32 × (Nat → Nat → Int32))) :=
  (if (13 : Int32) ≤ (z8.2.1 + z6.2.1) then
    some (Sum.inl (z8.1, z8.2.2))
  else
    (cd_iter cd_N (f_X6_roundBy_b143 z6 z8) ((1 : Int32), (0 : Int32))).bind (fun (t10 : Int32) =>
      (cd_iter cd_N (f_X6_roundBy_b192 z6 z8 t10) (z8.1, (0 : Int32), z8.2.2)).bind (fun (t17 : Int32 × (Nat → Nat → Int32)) =>
        some (Sum.inr (t17.1, (z8.2.1 + (1 : Int32)), t17.2)))))
def f_X6_roundBy_b96 (z6 : Int32 × Int32 × (Nat → Nat → Int32)) : Option ((Int32 × (Nat → Nat → Int32)) ⊕ (Int32 × Int32 × (Nat → Nat → Int32))) :=
  (if (13 : Int32) ≤ z6.2.1 then
    some (Sum.inl (z6.1, z6.2.2))
  else
    (cd_iter cd_N (f_X6_roundBy_b106 z6) (z6.1, (0 : Int32), z6.2.2)).bind (fun (t8 : Int32 × (Nat → Nat → Int32)) =>
      some (Sum.inr (t8.1, (z6.2.1 + (1 : Int32)), t8.2))))
def f_X6_roundBy (a0 : Int32) (a1 : Int32) (M : Nat → Nat → Int32) : Option (Int32 × (Nat → Nat → Int32)) :=
  (cd_iter cd_N f_X6_roundBy_b2 ((0 : Int32), M)).bind (fun (t1 : (Nat → Nat → Int32)) =>
    ((if a1 = 0 then
      (if a0 ≤ 0 then
        some t1
      else
        (f_X6_comes (a0 - (1 : Int32)) (1 : Int32) t1).bind (fun r35 =>
          (cd_ix 288 ((2 : Int32) * (((12 : Int32) * (a0 - (1 : Int32))) + a0))).bind (fun j36 =>
            some (cd_set r35.2 14 j36 r35.1))))
    else
      some t1)).bind (fun (x4 : (Nat → Nat → Int32)) =>
      ((if a1 = (1 : Int32) then
        (if (11 : Int32) ≤ a0 then
          some x4
        else
          (f_X6_comes (a0 + (1 : Int32)) (1 : Int32) x4).bind (fun r32 =>
            (cd_ix 288 (((2 : Int32) * ((((12 : Int32) * a0) + a0) + (1 : Int32))) + (1 : Int32))).bind (fun j33 =>
              some (cd_set r32.2 14 j33 r32.1))))
      else
        some x4)).bind (fun (x5 : (Nat → Nat → Int32)) =>
        (cd_iter cd_N f_X6_roundBy_b96 ((1000000 : Int32), (2 : Int32), x5)).bind (fun (t6 : Int32 × (Nat → Nat → Int32)) =>
          some (t6.1, t6.2)))))
def f_X6_round_b26 (a0 : Int32) (M : (Nat → Nat → Int32)) (z5 : Int32 × Int32) : Option ((Int32) ⊕ (Int32 × Int32)) :=
  (if (12 : Int32) ≤ z5.2 then
    some (Sum.inl z5.1)
  else
    (if z5.1 = 0 then
      (if z5.2 = a0 then
        some (Sum.inr ((0 : Int32), (z5.2 + (1 : Int32))))
      else
        (f_X6_isAsked z5.2 M).bind (fun r9 =>
          (if r9 = 0 then
            some (Sum.inr ((0 : Int32), (z5.2 + (1 : Int32))))
          else
            some (Sum.inr ((1 : Int32), (z5.2 + (1 : Int32)))))))
    else
      some (Sum.inr ((1 : Int32), (z5.2 + (1 : Int32))))))
def f_X6_round (a0 : Int32) (a1 : Int32) (M : Nat → Nat → Int32) : Option (Int32 × (Nat → Nat → Int32)) :=
  (f_X6_isCandle a0).bind (fun r1 =>
    (if r1 = 0 then
      some ((-1 : Int32), M)
    else
      (f_X6_in a1 (0 : Int32) (1 : Int32)).bind (fun r3 =>
        (if r3 = 0 then
          some ((-2 : Int32), M)
        else
          (cd_iter cd_N (f_X6_round_b26 a0 M) ((0 : Int32), (0 : Int32))).bind (fun (t5 : Int32) =>
            (if t5 = 0 then
              ((if a1 = 0 then
                some (0 : Int32)
              else
                some (-6 : Int32))).bind (fun (x12 : Int32) =>
                some (x12, M))
            else
              (f_X6_roundBy a0 (0 : Int32) M).bind (fun r13 =>
                (f_X6_roundBy a0 (1 : Int32) r13.2).bind (fun r14 =>
                  ((if r14.1 ≤ r13.1 then
                    some r14.1
                  else
                    some r13.1)).bind (fun (x15 : Int32) =>
                    (if x15 < (1000000 : Int32) then
                      ((if a1 = 0 then
                        some x15
                      else
                        (if r13.1 = x15 then
                          some (0 : Int32)
                        else
                          some (1 : Int32)))).bind (fun (x17 : Int32) =>
                        some (x17, r14.2))
                    else
                      some ((-6 : Int32), r14.2)))))))))))
def f_X6_say (a0 : Int32) (M : Nat → Nat → Int32) : Option (Int32 × (Nat → Nat → Int32)) :=
  (f_X6_in a0 (33 : Int32) (126 : Int32)).bind (fun r1 =>
    (if r1 = 0 then
      some ((-2 : Int32), M)
    else
      (if (M 6 0) = (60 : Int32) then
        some ((-4 : Int32), M)
      else
        (cd_ix 60 (M 6 0)).bind (fun j4 =>
          some (((M 6 0) + (1 : Int32)), (cd_fld (cd_set M 7 j4 a0) 6 ((M 6 0) + (1 : Int32))))))))
def f_X6_seen (a0 : Int32) (a1 : Int32) (M : Nat → Nat → Int32) : Option (Int32 × (Nat → Nat → Int32)) :=
  (f_X6_isCandle a0).bind (fun r1 =>
    (if r1 = 0 then
      some ((-1 : Int32), M)
    else
      (f_X6_in a1 (0 : Int32) (999 : Int32)).bind (fun r3 =>
        (if r3 = 0 then
          some ((-2 : Int32), M)
        else
          (if (M 4 0) = (8 : Int32) then
            some ((-4 : Int32), M)
          else
            (cd_ix 16 ((2 : Int32) * (M 4 0))).bind (fun j6 =>
              (cd_ix 16 (((2 : Int32) * (M 4 0)) + (1 : Int32))).bind (fun j7 =>
                some (((M 4 0) + (1 : Int32)), (cd_fld (cd_set (cd_set M 5 j6 a0) 5 j7 a1) 4 ((M 4 0) + (1 : Int32)))))))))))
def f_X6_ship (a0 : Int32) (a1 : Int32) (a2 : Int32) (a3 : Int32) (M : Nat → Nat → Int32) : Option (Int64) :=
  (f_X6_in a0 (1 : Int32) (9 : Int32)).bind (fun r1 =>
    (if r1 = 0 then
      some (-1000000000000000002 : Int64)
    else
      (f_X6_in a1 (0 : Int32) (99 : Int32)).bind (fun r3 =>
        (if r3 = 0 then
          some (-1000000000000000002 : Int64)
        else
          (f_X6_in a2 (0 : Int32) (99 : Int32)).bind (fun r5 =>
            (if r5 = 0 then
              some (-1000000000000000002 : Int64)
            else
              (f_X6_in a3 (0 : Int32) (1 : Int32)).bind (fun r7 =>
                (if r7 = 0 then
                  some (-1000000000000000002 : Int64)
                else
                  ((if (lg_cmp ((200 : Int64) - ((a1 * a0).toInt64)) (0 : Int64)) ≤ 0 then
                    some (0 : Int64)
                  else
                    some ((200 : Int64) - ((a1 * a0).toInt64)))).bind (fun (x9 : Int64) =>
                    ((if (lg_cmp ((200 : Int64) - (((a1 + a2) * a0).toInt64)) (0 : Int64)) ≤ 0 then
                      some (0 : Int64)
                    else
                      some ((200 : Int64) - (((a1 + a2) * a0).toInt64)))).bind (fun (x10 : Int64) =>
                      ((if (lg_cmp x9 (0 : Int64)) = 0 then
                        some (a3.toInt64)
                      else
                        (f_X6_lowest x10 x9 a3).bind (fun r12 =>
                          some r12))).bind (fun (x11 : Int64) =>
                        some x11)))))))))))
def f_X6_sneezes_b8 (a0 : Int32) (r1 : (Nat → Nat → Int32)) (z2 : Int32 × Int32) : Option (((Int32 × (Nat → Nat → Int32)) ⊕ (Int32)) ⊕ (Int32 × Int32)) :=
  (if (12000 : Int32) ≤ z2.2 then
    some (Sum.inl (Sum.inr z2.1))
  else
    (f_X6_isSneeze z2.2 r1).bind (fun r4 =>
      (if r4 = 0 then
        some (Sum.inr (z2.1, (z2.2 + (1 : Int32))))
      else
        (if z2.1 = a0 then
          some (Sum.inl (Sum.inl (z2.2, r1)))
        else
          some (Sum.inr ((z2.1 + (1 : Int32)), (z2.2 + (1 : Int32))))))))
def f_X6_sneezes (a0 : Int32) (M : Nat → Nat → Int32) : Option (Int32 × (Nat → Nat → Int32)) :=
  (f_X6_layBurns M).bind (fun r1 =>
    (cd_iter cd_N (f_X6_sneezes_b8 a0 r1) ((0 : Int32), (0 : Int32))).bind (fun (x2 : (Int32 × (Nat → Nat → Int32)) ⊕ (Int32)) => Sum.elim (fun r => some r) (fun (t2 : Int32) =>
      ((if a0 = (-1 : Int32) then
        some t2
      else
        some (-6 : Int32))).bind (fun (x7 : Int32) =>
        some (x7, r1))) x2))
def f_X6_worthOf_b7 (a0 : Int32) (M : (Nat → Nat → Int32)) (z1 : Int32 × Int32 × Int32) : Option ((Int32) ⊕ (Int32 × Int32 × Int32)) :=
  (if (13 : Int32) ≤ z1.2.2 then
    some (Sum.inl z1.1)
  else
    (f_X6_isIn a0 z1.2.2).bind (fun r3 =>
      (if r3 = 0 then
        (cd_rd (M 18) 13 z1.2.1).bind (fun v5 =>
          some (Sum.inr ((z1.1 ^^^ v5), (0 : Int32), (z1.2.2 + (1 : Int32)))))
      else
        some (Sum.inr (z1.1, (z1.2.1 + (1 : Int32)), (z1.2.2 + (1 : Int32)))))))
def f_X6_worthOf (a0 : Int32) (M : Nat → Nat → Int32) : Option (Int32) :=
  (cd_iter cd_N (f_X6_worthOf_b7 a0 M) ((0 : Int32), (0 : Int32), (0 : Int32))).bind (fun (t1 : Int32) =>
    some t1)
def f_X6_snuff_b22 (r3 : (Nat → Nat → Int32)) (z4 : Int32 × Int32) : Option ((Int32) ⊕ (Int32 × Int32)) :=
  (if z4.2 < 0 then
    some (Sum.inl z4.1)
  else
    (cd_rd (r3 0) 69 (66 : Int32)).bind (fun v6 =>
      (f_X6_isIn v6 z4.2).bind (fun r7 =>
        (if r7 = 0 then
          some (Sum.inr (z4.1, (z4.2 + (-1 : Int32))))
        else
          (cd_rd (r3 0) 69 (66 : Int32)).bind (fun v9 =>
            (f_X6_worthOf (v9 &&& ((((7 : Int32) <<< (z4.2 &&& 31)) >>> ((1 : Int32) &&& 31)) ^^^ (-1 : Int32))) r3).bind (fun r10 =>
              (if r10 = 0 then
                some (Sum.inr (z4.2, (z4.2 + (-1 : Int32))))
              else
                some (Sum.inr (z4.1, (z4.2 + (-1 : Int32)))))))))))
def f_X6_snuff (a0 : Int32) (M : Nat → Nat → Int32) : Option (Int32 × (Nat → Nat → Int32)) :=
  (f_X6_in a0 (0 : Int32) (1 : Int32)).bind (fun r1 =>
    (if r1 = 0 then
      some ((-2 : Int32), M)
    else
      (f_X6_layRows M).bind (fun r3 =>
        (cd_iter cd_N (f_X6_snuff_b22 r3) ((-6 : Int32), (11 : Int32))).bind (fun (t4 : Int32) =>
          ((if a0 = (1 : Int32) then
            some t4
          else
            (if 0 ≤ t4 then
              some (1 : Int32)
            else
              some (0 : Int32)))).bind (fun (x12 : Int32) =>
            some (x12, r3))))))
def f_X6_then (a0 : Int32) (M : Nat → Nat → Int32) : Option (Int32 × (Nat → Nat → Int32)) :=
  (f_X6_in a0 (0 : Int32) (5 : Int32)).bind (fun r1 =>
    (if r1 = 0 then
      some ((-2 : Int32), M)
    else
      (f_X6_barOfNights M).bind (fun r3 =>
        (if 0 ≤ r3.1 then
          ((if (3 : Int32) ≤ a0 then
            (if a0 = (3 : Int32) then
              some (r3.2 8 0)
            else
              (if a0 = (4 : Int32) then
                some (r3.2 9 0)
              else
                some (r3.2 10 0)))
          else
            (cd_rd (r3.2 1) 69 ((66 : Int32) + a0)).bind (fun v8 =>
              some v8))).bind (fun (x5 : Int32) =>
            some (x5, r3.2))
        else
          some ((-5 : Int32), r3.2)))))
def f_X6_told (a0 : Int32) (M : Nat → Nat → Int32) : Option (Int32 × (Nat → Nat → Int32)) :=
  (if a0 < (100 : Int32) then
    (if a0 < (10 : Int32) then
      ((if a0 = 0 then
        some (M 6 0)
      else
        (f_X6_in a0 (1 : Int32) (3 : Int32)).bind (fun r4 =>
          (if r4 = 0 then
            (if a0 = (4 : Int32) then
              some (M 4 0)
            else
              some (-2 : Int32))
          else
            (cd_rd (M 0) 69 ((65 : Int32) + a0)).bind (fun v7 =>
              some v7))))).bind (fun (x3 : Int32) =>
        some (x3, M))
    else
      (f_X6_isOne (a0 - (10 : Int32))).bind (fun r8 =>
        ((if r8 = 0 then
          some (-2 : Int32)
        else
          (cd_rd (M 0) 69 (((60 : Int32) + a0) - (10 : Int32))).bind (fun v10 =>
            some v10))).bind (fun (x9 : Int32) =>
          some (x9, M))))
  else
    (f_X6_isCandle ((a0 / (10 : Int32)) - (10 : Int32))).bind (fun r11 =>
      (if r11 = 0 then
        some ((-2 : Int32), M)
      else
        (f_X6_asNow M).bind (fun r13 =>
          (if (a0 - a0 / (10 : Int32) * (10 : Int32)) = (0 : Int32) then
            (cd_rd (r13 0) 69 ((a0 / (10 : Int32)) - (10 : Int32))).bind (fun v15 =>
              some (v15, r13))
          else
            if (a0 - a0 / (10 : Int32) * (10 : Int32)) = (1 : Int32) then
              (cd_rd (r13 0) 69 (66 : Int32)).bind (fun v16 =>
                some (((v16 >>> (((a0 / (10 : Int32)) - (10 : Int32)) &&& 31)) &&& (1 : Int32)), r13))
            else
              if (a0 - a0 / (10 : Int32) * (10 : Int32)) = (2 : Int32) then
                (cd_rd (r13 0) 69 ((24 : Int32) + ((a0 / (10 : Int32)) - (10 : Int32)))).bind (fun v17 =>
                  some (v17, r13))
              else
                if (a0 - a0 / (10 : Int32) * (10 : Int32)) = (3 : Int32) then
                  (cd_rd (r13 0) 69 ((36 : Int32) + ((a0 / (10 : Int32)) - (10 : Int32)))).bind (fun v18 =>
                    some (v18, r13))
                else
                  if (a0 - a0 / (10 : Int32) * (10 : Int32)) = (4 : Int32) then
                    (cd_rd (r13 2) 12 ((a0 / (10 : Int32)) - (10 : Int32))).bind (fun v19 =>
                      some (v19, r13))
                  else
                    if (a0 - a0 / (10 : Int32) * (10 : Int32)) = (5 : Int32) then
                      (cd_rd (r13 3) 12 ((a0 / (10 : Int32)) - (10 : Int32))).bind (fun v20 =>
                        some (v20, r13))
                    else
                      if (a0 - a0 / (10 : Int32) * (10 : Int32)) = (6 : Int32) then
                        (cd_rd (r13 0) 69 ((12 : Int32) + ((a0 / (10 : Int32)) - (10 : Int32)))).bind (fun v21 =>
                          some (v21, r13))
                      else
                        ((if (a0 - a0 / (10 : Int32) * (10 : Int32)) = (7 : Int32) then
                          (f_X6_burnOf ((a0 / (10 : Int32)) - (10 : Int32)) r13).bind (fun r23 =>
                            some r23)
                        else
                          some (-2 : Int32))).bind (fun (x22 : Int32) =>
                          some (x22, r13)))))))
def f_X6_trims_b25 (a0 : Int32) (a1 : Int32) (M : (Nat → Nat → Int32)) (z5 : Int32) : Option (((Int32) ⊕ (Unit)) ⊕ (Int32)) :=
  (cd_rd (M 0) 69 ((24 : Int32) + a0)).bind (fun v6 =>
    (if (10 : Int32) ≤ (v6 + z5) then
      some (Sum.inl (Sum.inr ()))
    else
      (cd_rd (M 0) 69 ((36 : Int32) + a0)).bind (fun v8 =>
        (cd_rd (M 0) 69 ((24 : Int32) + a0)).bind (fun v9 =>
          ((if (1 : Int32) ≤ ((((1 : Int32) + v8) - v9) - z5) then
            some ((((1 : Int32) + v8) - v9) - z5)
          else
            some (1 : Int32))).bind (fun (x10 : Int32) =>
            (cd_rd (M 0) 69 a0).bind (fun v11 =>
              (cd_nz x10).bind (fun u12 =>
                (if (((v11 + x10) - (1 : Int32)) / x10) < a1 then
                  some (Sum.inr (z5 + (1 : Int32)))
                else
                  some (Sum.inl (Sum.inl z5))))))))))
def f_X6_trims (a0 : Int32) (a1 : Int32) (M : Nat → Nat → Int32) : Option (Int32) :=
  (f_X6_isCandle a0).bind (fun r1 =>
    (if r1 = 0 then
      some (-1 : Int32)
    else
      (f_X6_in a1 (1 : Int32) (999 : Int32)).bind (fun r3 =>
        (if r3 = 0 then
          some (-2 : Int32)
        else
          (cd_iter cd_N (f_X6_trims_b25 a0 a1 M) (0 : Int32)).bind (fun (x5 : (Int32) ⊕ (Unit)) => Sum.elim (fun r => some r) (fun (t5 : Unit) =>
            some (-6 : Int32)) x5)))))
def f_X6_wipe (M : Nat → Nat → Int32) : Option (Int32 × (Nat → Nat → Int32)) :=
  some ((M 6 0), (cd_fld M 6 (0 : Int32)))
def f_X6_year_b43 (a1 : Int32) (z8 : Int32 × Int32 × (Nat → Nat → Int32)) : Option (((Nat → Nat → Int32)) ⊕ (Int32 × Int32 × (Nat → Nat → Int32))) :=
  (if a1 ≤ z8.2.1 then
    some (Sum.inl z8.2.2)
  else
    (if (((((75 : Int32) * z8.1) + (74 : Int32)) - (((75 : Int32) * z8.1) + (74 : Int32)) / (65537 : Int32) * (65537 : Int32)) - ((((75 : Int32) * z8.1) + (74 : Int32)) - (((75 : Int32) * z8.1) + (74 : Int32)) / (65537 : Int32) * (65537 : Int32)) / (8 : Int32) * (8 : Int32)) = (4 : Int32) then
      (if (11 : Int32) ≤ ((((((75 : Int32) * z8.1) + (74 : Int32)) - (((75 : Int32) * z8.1) + (74 : Int32)) / (65537 : Int32) * (65537 : Int32)) / (8 : Int32)) - (((((75 : Int32) * z8.1) + (74 : Int32)) - (((75 : Int32) * z8.1) + (74 : Int32)) / (65537 : Int32) * (65537 : Int32)) / (8 : Int32)) / (12 : Int32) * (12 : Int32)) then
        some (Sum.inr (((((75 : Int32) * z8.1) + (74 : Int32)) - (((75 : Int32) * z8.1) + (74 : Int32)) / (65537 : Int32) * (65537 : Int32)), (z8.2.1 + (1 : Int32)), z8.2.2))
      else
        (f_X6_lightFrom ((((((75 : Int32) * z8.1) + (74 : Int32)) - (((75 : Int32) * z8.1) + (74 : Int32)) / (65537 : Int32) * (65537 : Int32)) / (8 : Int32)) - (((((75 : Int32) * z8.1) + (74 : Int32)) - (((75 : Int32) * z8.1) + (74 : Int32)) / (65537 : Int32) * (65537 : Int32)) / (8 : Int32)) / (12 : Int32) * (12 : Int32)) (((((((75 : Int32) * z8.1) + (74 : Int32)) - (((75 : Int32) * z8.1) + (74 : Int32)) / (65537 : Int32) * (65537 : Int32)) / (8 : Int32)) - (((((75 : Int32) * z8.1) + (74 : Int32)) - (((75 : Int32) * z8.1) + (74 : Int32)) / (65537 : Int32) * (65537 : Int32)) / (8 : Int32)) / (12 : Int32) * (12 : Int32)) + (1 : Int32)) z8.2.2).bind (fun r12 =>
          some (Sum.inr (((((75 : Int32) * z8.1) + (74 : Int32)) - (((75 : Int32) * z8.1) + (74 : Int32)) / (65537 : Int32) * (65537 : Int32)), (z8.2.1 + (1 : Int32)), r12.2))))
    else
      (if (((((75 : Int32) * z8.1) + (74 : Int32)) - (((75 : Int32) * z8.1) + (74 : Int32)) / (65537 : Int32) * (65537 : Int32)) - ((((75 : Int32) * z8.1) + (74 : Int32)) - (((75 : Int32) * z8.1) + (74 : Int32)) / (65537 : Int32) * (65537 : Int32)) / (8 : Int32) * (8 : Int32)) = 0 then
        (f_X6_strike ((((((75 : Int32) * z8.1) + (74 : Int32)) - (((75 : Int32) * z8.1) + (74 : Int32)) / (65537 : Int32) * (65537 : Int32)) / (8 : Int32)) - (((((75 : Int32) * z8.1) + (74 : Int32)) - (((75 : Int32) * z8.1) + (74 : Int32)) / (65537 : Int32) * (65537 : Int32)) / (8 : Int32)) / (12 : Int32) * (12 : Int32)) z8.2.2).bind (fun r14 =>
          some (Sum.inr (((((75 : Int32) * z8.1) + (74 : Int32)) - (((75 : Int32) * z8.1) + (74 : Int32)) / (65537 : Int32) * (65537 : Int32)), (z8.2.1 + (1 : Int32)), r14.2)))
      else
        (if (((((75 : Int32) * z8.1) + (74 : Int32)) - (((75 : Int32) * z8.1) + (74 : Int32)) / (65537 : Int32) * (65537 : Int32)) - ((((75 : Int32) * z8.1) + (74 : Int32)) - (((75 : Int32) * z8.1) + (74 : Int32)) / (65537 : Int32) * (65537 : Int32)) / (8 : Int32) * (8 : Int32)) = (1 : Int32) then
          (f_X6_snuffOut ((((((75 : Int32) * z8.1) + (74 : Int32)) - (((75 : Int32) * z8.1) + (74 : Int32)) / (65537 : Int32) * (65537 : Int32)) / (8 : Int32)) - (((((75 : Int32) * z8.1) + (74 : Int32)) - (((75 : Int32) * z8.1) + (74 : Int32)) / (65537 : Int32) * (65537 : Int32)) / (8 : Int32)) / (12 : Int32) * (12 : Int32)) z8.2.2).bind (fun r16 =>
            some (Sum.inr (((((75 : Int32) * z8.1) + (74 : Int32)) - (((75 : Int32) * z8.1) + (74 : Int32)) / (65537 : Int32) * (65537 : Int32)), (z8.2.1 + (1 : Int32)), r16.2)))
        else
          (if (((((75 : Int32) * z8.1) + (74 : Int32)) - (((75 : Int32) * z8.1) + (74 : Int32)) / (65537 : Int32) * (65537 : Int32)) - ((((75 : Int32) * z8.1) + (74 : Int32)) - (((75 : Int32) * z8.1) + (74 : Int32)) / (65537 : Int32) * (65537 : Int32)) / (8 : Int32) * (8 : Int32)) = (2 : Int32) then
            (f_X6_askFor ((((((75 : Int32) * z8.1) + (74 : Int32)) - (((75 : Int32) * z8.1) + (74 : Int32)) / (65537 : Int32) * (65537 : Int32)) / (8 : Int32)) - (((((75 : Int32) * z8.1) + (74 : Int32)) - (((75 : Int32) * z8.1) + (74 : Int32)) / (65537 : Int32) * (65537 : Int32)) / (8 : Int32)) / (12 : Int32) * (12 : Int32)) z8.2.2).bind (fun r18 =>
              some (Sum.inr (((((75 : Int32) * z8.1) + (74 : Int32)) - (((75 : Int32) * z8.1) + (74 : Int32)) / (65537 : Int32) * (65537 : Int32)), (z8.2.1 + (1 : Int32)), r18.2)))
          else
            (if (((((75 : Int32) * z8.1) + (74 : Int32)) - (((75 : Int32) * z8.1) + (74 : Int32)) / (65537 : Int32) * (65537 : Int32)) - ((((75 : Int32) * z8.1) + (74 : Int32)) - (((75 : Int32) * z8.1) + (74 : Int32)) / (65537 : Int32) * (65537 : Int32)) / (8 : Int32) * (8 : Int32)) = (3 : Int32) then
              (f_X6_trim ((((((75 : Int32) * z8.1) + (74 : Int32)) - (((75 : Int32) * z8.1) + (74 : Int32)) / (65537 : Int32) * (65537 : Int32)) / (8 : Int32)) - (((((75 : Int32) * z8.1) + (74 : Int32)) - (((75 : Int32) * z8.1) + (74 : Int32)) / (65537 : Int32) * (65537 : Int32)) / (8 : Int32)) / (12 : Int32) * (12 : Int32)) z8.2.2).bind (fun r20 =>
                some (Sum.inr (((((75 : Int32) * z8.1) + (74 : Int32)) - (((75 : Int32) * z8.1) + (74 : Int32)) / (65537 : Int32) * (65537 : Int32)), (z8.2.1 + (1 : Int32)), r20.2)))
            else
              (if (((((75 : Int32) * z8.1) + (74 : Int32)) - (((75 : Int32) * z8.1) + (74 : Int32)) / (65537 : Int32) * (65537 : Int32)) - ((((75 : Int32) * z8.1) + (74 : Int32)) - (((75 : Int32) * z8.1) + (74 : Int32)) / (65537 : Int32) * (65537 : Int32)) / (8 : Int32) * (8 : Int32)) = (5 : Int32) then
                (f_X6_blow ((((((75 : Int32) * z8.1) + (74 : Int32)) - (((75 : Int32) * z8.1) + (74 : Int32)) / (65537 : Int32) * (65537 : Int32)) / (8 : Int32)) - (((((75 : Int32) * z8.1) + (74 : Int32)) - (((75 : Int32) * z8.1) + (74 : Int32)) / (65537 : Int32) * (65537 : Int32)) / (8 : Int32)) / (12 : Int32) * (12 : Int32)) ((((((75 : Int32) * z8.1) + (74 : Int32)) - (((75 : Int32) * z8.1) + (74 : Int32)) / (65537 : Int32) * (65537 : Int32)) / (96 : Int32)) - (((((75 : Int32) * z8.1) + (74 : Int32)) - (((75 : Int32) * z8.1) + (74 : Int32)) / (65537 : Int32) * (65537 : Int32)) / (96 : Int32)) / (10 : Int32) * (10 : Int32)) z8.2.2).bind (fun r22 =>
                  some (Sum.inr (((((75 : Int32) * z8.1) + (74 : Int32)) - (((75 : Int32) * z8.1) + (74 : Int32)) / (65537 : Int32) * (65537 : Int32)), (z8.2.1 + (1 : Int32)), r22.2)))
              else
                (f_X6_minute z8.2.2).bind (fun r23 =>
                  some (Sum.inr (((((75 : Int32) * z8.1) + (74 : Int32)) - (((75 : Int32) * z8.1) + (74 : Int32)) / (65537 : Int32) * (65537 : Int32)), (z8.2.1 + (1 : Int32)), r23.2))))))))))
def f_X6_year_b211 (t8 : (Nat → Nat → Int32)) (z24 : Int32 × Int32) : Option ((Int32) ⊕ (Int32 × Int32)) :=
  (if (12 : Int32) ≤ z24.2 then
    some (Sum.inl z24.1)
  else
    (cd_rd (t8 1) 69 z24.2).bind (fun v26 =>
      some (Sum.inr ((z24.1 + v26), (z24.2 + (1 : Int32))))))
def f_X6_year (a0 : Int32) (a1 : Int32) (a2 : Int32) (M : Nat → Nat → Int32) : Option (Int32 × (Nat → Nat → Int32)) :=
  (f_X6_in a0 (0 : Int32) (9999 : Int32)).bind (fun r1 =>
    (if r1 = 0 then
      some ((-2 : Int32), M)
    else
      (f_X6_in a1 (1 : Int32) (99 : Int32)).bind (fun r3 =>
        (if r3 = 0 then
          some ((-2 : Int32), M)
        else
          (f_X6_in a2 (0 : Int32) (2 : Int32)).bind (fun r5 =>
            (if r5 = 0 then
              some ((-2 : Int32), M)
            else
              (f_X6_asNow M).bind (fun r7 =>
                (cd_iter cd_N (f_X6_year_b43 a1) (a0, (0 : Int32), r7)).bind (fun (t8 : (Nat → Nat → Int32)) =>
                  (cd_iter cd_N (f_X6_year_b211 t8) ((0 : Int32), (0 : Int32))).bind (fun (t24 : Int32) =>
                    ((if a2 = 0 then
                      some (t8 8 0)
                    else
                      (if a2 = (1 : Int32) then
                        some t24
                      else
                        (cd_rd (t8 1) 69 (66 : Int32)).bind (fun v29 =>
                          (f_X6_bits v29).bind (fun r30 =>
                            some r30))))).bind (fun (x27 : Int32) =>
                      some (x27, t8)))))))))))
