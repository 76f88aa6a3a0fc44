/-! the methods of the class (X0, X1, X2) and of the reference (X3) as functions -/
def f_X0_isMultiplier (a1 : Int32) : Int32 :=
  if (a1 &&& (65520 : Int32)) = 304 then
    1
  else
    0
def f_X0_slotOf (a1 : Int32) : Int32 :=
  (a1 >>> ((1 : Int32) &&& 31)) &&& (7 : Int32)
def f_X0_cellOf (a1 : Int32) : Int32 :=
  (a1 &&& (65535 : Int32)) >>> ((3 : Int32) &&& 31)
def f_X1_wordAtSlot (σ : StC) (a1 : Int32) : Int32 :=
  if a1 = 4 then
    σ.2.2.2.2.2.1
  else
    if a1 = 5 then
      σ.2.2.2.2.2.2.1
    else
      if a1 = 6 then
        σ.2.2.2.2.2.2.2.1
      else
        if a1 = 7 then
          σ.2.2.2.2.2.2.2.2.1
        else
          σ.2.2.2.2.1
def f_X1_placeWordAtSlot (σ : StC) (a1 : Int32) (a2 : Int32) : StC :=
  if a1 = 4 then
    (σ.1, σ.2.1, σ.2.2.1, σ.2.2.2.1, σ.2.2.2.2.1, a2, σ.2.2.2.2.2.2.1, σ.2.2.2.2.2.2.2.1, σ.2.2.2.2.2.2.2.2.1, σ.2.2.2.2.2.2.2.2.2)
  else
    if a1 = 5 then
      (σ.1, σ.2.1, σ.2.2.1, σ.2.2.2.1, σ.2.2.2.2.1, σ.2.2.2.2.2.1, a2, σ.2.2.2.2.2.2.2.1, σ.2.2.2.2.2.2.2.2.1, σ.2.2.2.2.2.2.2.2.2)
    else
      if a1 = 6 then
        (σ.1, σ.2.1, σ.2.2.1, σ.2.2.2.1, σ.2.2.2.2.1, σ.2.2.2.2.2.1, σ.2.2.2.2.2.2.1, a2, σ.2.2.2.2.2.2.2.2.1, σ.2.2.2.2.2.2.2.2.2)
      else
        if a1 = 7 then
          (σ.1, σ.2.1, σ.2.2.1, σ.2.2.2.1, σ.2.2.2.2.1, σ.2.2.2.2.2.1, σ.2.2.2.2.2.2.1, σ.2.2.2.2.2.2.2.1, a2, σ.2.2.2.2.2.2.2.2.2)
        else
          (σ.1, σ.2.1, σ.2.2.1, σ.2.2.2.1, a2, σ.2.2.2.2.2.1, σ.2.2.2.2.2.2.1, σ.2.2.2.2.2.2.2.1, σ.2.2.2.2.2.2.2.2.1, σ.2.2.2.2.2.2.2.2.2)
def f_X1_multiply (σ : StC) : StC :=
  let v2 : Int32 := (if (σ.2.2.2.2.2.2.2.2.2 &&& (1 : Int32)) = 0 then
    0
  else
    1);
  let v4 : Int32 := (if (σ.2.2.2.2.2.2.2.2.2 &&& (2 : Int32)) = 0 then
    0
  else
    1);
  let v6 : Int64 := (if v2 = 0 then
    σ.2.2.2.2.1.toInt64 * σ.2.2.2.2.2.1.toInt64
  else
    σ.2.2.2.2.1.toInt16.toInt32.toInt64 * σ.2.2.2.2.2.1.toInt16.toInt32.toInt64);
  let v8 : Int64 := (if v4 = 0 then
    0
  else
    (σ.2.2.2.2.2.2.2.1.toInt64 <<< ((16 : Int32).toInt64 &&& 63)) ||| σ.2.2.2.2.2.2.1.toInt64);
  let x9 : Int64 := (v8 + v6);
  let x10 : Int32 := (((x9 >>> ((16 : Int32).toInt64 &&& 63)).toInt32) &&& (65535 : Int32));
  let x11 : Int32 := (x9.toInt32 &&& (65535 : Int32));
  if v2 = 0 then
    let v14 : Int32 := (if (lg_cmp x9 4294967295) ≤ 0 then
      0
    else
      1);
    (σ.1, σ.2.1, σ.2.2.1, σ.2.2.2.1, σ.2.2.2.2.1, σ.2.2.2.2.2.1, x11, x10, v14, σ.2.2.2.2.2.2.2.2.2)
  else
    let v16 : Int32 := (if (x10 &&& (32768 : Int32)) = 0 then
      0
    else
      65535);
    (σ.1, σ.2.1, σ.2.2.1, σ.2.2.2.1, σ.2.2.2.2.1, σ.2.2.2.2.2.1, x11, x10, v16, σ.2.2.2.2.2.2.2.2.2)
def f_X1_write (σ : StC) (a1 : Int32) (a2 : Int32) : StC :=
  if a1 = 7 then
    σ
  else
    let σ2 : StC := (f_X1_placeWordAtSlot σ a1 a2);
    if 4 ≤ a1 then
      if a1 = 4 then
        let σ5 : StC := (f_X1_multiply σ2);
        σ5
      else
        σ2
    else
      (σ2.1, σ2.2.1, σ2.2.2.1, σ2.2.2.2.1, σ2.2.2.2.2.1, σ2.2.2.2.2.2.1, σ2.2.2.2.2.2.2.1, σ2.2.2.2.2.2.2.2.1, σ2.2.2.2.2.2.2.2.2.1, a1)
def f_X1_clear (σ : StC) : StC :=
  (σ.1, σ.2.1, σ.2.2.1, σ.2.2.2.1, 0, 0, 0, 0, 0, 0)
def f_X0_wordAt (σ : StC) (a1 : Int32) : Int32 :=
  let x1 : Int32 := (f_X0_isMultiplier a1);
  if x1 = 0 then
    let x3 : Int32 := (f_X0_cellOf a1);
    ((((σ.2.2.2.1 x3.toNatClampNeg).toUInt64 >>> (((a1 &&& (6 : Int32)) * (8 : Int32)).toInt64.toUInt64 &&& Int64.toUInt64 63)).toInt64).toInt32) &&& (65535 : Int32)
  else
    let x4 : Int32 := (f_X0_slotOf a1);
    let x5 : Int32 := (f_X1_wordAtSlot σ x4);
    x5
def f_X0_byteAt (σ : StC) (a1 : Int32) : Int32 :=
  let x1 : Int32 := (f_X0_wordAt σ a1);
  if (a1 &&& (1 : Int32)) = 0 then
    x1 &&& (255 : Int32)
  else
    x1 >>> ((8 : Int32) &&& 31)
def f_X0_placeWord (σ : StC) (a1 : Int32) (a2 : Int32) : StC :=
  let x1 : Int32 := ((a1 &&& (6 : Int32)) * (8 : Int32));
  let x2 : Int32 := (f_X0_cellOf a1);
  let x3 : Int64 := (((σ.2.2.2.1 x2.toNatClampNeg) &&& (((65535 : Int64) <<< (x1.toInt64 &&& 63)) ^^^ ((-1) : Int64))) ||| (a2.toInt64 <<< (x1.toInt64 &&& 63)));
  (σ.1, σ.2.1, σ.2.2.1, vp_updL σ.2.2.2.1 x2.toNatClampNeg x3, σ.2.2.2.2.1, σ.2.2.2.2.2.1, σ.2.2.2.2.2.2.1, σ.2.2.2.2.2.2.2.1, σ.2.2.2.2.2.2.2.2.1, σ.2.2.2.2.2.2.2.2.2)
def f_X0_writeWord (σ : StC) (a1 : Int32) (a2 : Int32) : StC :=
  let x1 : Int32 := (f_X0_isMultiplier a1);
  if x1 = 0 then
    let σ3 : StC := (f_X0_placeWord σ a1 a2);
    σ3
  else
    let x4 : Int32 := (f_X0_slotOf a1);
    let σ5 : StC := (f_X1_write σ x4 a2);
    σ5
def f_X0_placeByte (σ : StC) (a1 : Int32) (a2 : Int32) : StC :=
  let x1 : Int32 := (f_X0_wordAt σ a1);
  let v3 : Int32 := (if (a1 &&& (1 : Int32)) = 0 then
    (x1 &&& (65280 : Int32)) ||| a2
  else
    (x1 &&& (255 : Int32)) ||| (a2 <<< ((8 : Int32) &&& 31)));
  let x4 : Int32 := (f_X0_isMultiplier a1);
  if x4 = 0 then
    let σ6 : StC := (f_X0_placeWord σ a1 v3);
    σ6
  else
    let x7 : Int32 := (f_X0_slotOf a1);
    let σ8 : StC := (f_X1_placeWordAtSlot σ x7 v3);
    σ8
def f_X0_writeByte (σ : StC) (a1 : Int32) (a2 : Int32) : StC :=
  let x1 : Int32 := (f_X0_isMultiplier a1);
  if x1 = 0 then
    let σ6 : StC := (f_X0_placeByte σ a1 a2);
    σ6
  else
    if (a1 &&& (1 : Int32)) = 0 then
      let x4 : Int32 := (f_X0_slotOf a1);
      let σ5 : StC := (f_X1_write σ x4 a2);
      σ5
    else
      σ
def f_X2_setRegister (σ : StC) (a1 : Int32) (a2 : Int32) : StC :=
  if a1 = 3 then
    σ
  else
    let v3 : Int32 := (if a1 = 0 then
      65534
    else
      65535);
    let x4 : Int32 := (a2 &&& v3);
    (upd σ.1 ((a1 &&& (15 : Int32)).toNatClampNeg) x4, σ.2.1, σ.2.2.1, σ.2.2.2.1, σ.2.2.2.2.1, σ.2.2.2.2.2.1, σ.2.2.2.2.2.2.1, σ.2.2.2.2.2.2.2.1, σ.2.2.2.2.2.2.2.2.1, σ.2.2.2.2.2.2.2.2.2)
def f_X2_addToRegister (σ : StC) (a1 : Int32) (a2 : Int32) : StC :=
  let σ1 : StC := (f_X2_setRegister σ a1 ((σ.1 (a1 &&& (15 : Int32)).toNatClampNeg) + a2));
  σ1
def f_X2_spend (σ : StC) (a1 : Int32) : StC :=
  let x1 : Int32 := ((σ.2.2.1 + a1) &&& (1073741823 : Int32));
  (σ.1, σ.2.1, x1, σ.2.2.2.1, σ.2.2.2.2.1, σ.2.2.2.2.2.1, σ.2.2.2.2.2.2.1, σ.2.2.2.2.2.2.2.1, σ.2.2.2.2.2.2.2.2.1, σ.2.2.2.2.2.2.2.2.2)
def f_X2_spendByKind (σ : StC) (a1 : Nat) (a2 : Int32) : StC :=
  let σ1 : StC := (f_X2_spend σ (tabC a1 (a2 &&& (3 : Int32)).toNatClampNeg));
  σ1
def f_X2_isHighestSet (a1 : Int32) (a2 : Int32) : Int32 :=
  if (a1 &&& ((a2 + (1 : Int32)) >>> ((1 : Int32) &&& 31))) = 0 then
    0
  else
    1
def f_X2_isSet (σ : StC) (a1 : Int32) : Int32 :=
  if ((σ.1 (2 : Int32).toNatClampNeg) &&& a1) = 0 then
    0
  else
    1
def f_X2_setFlags (σ : StC) (a1 : Int32) (a2 : Int32) (a3 : Int32) (a4 : Int32) : StC :=
  let v2 : Int32 := (if a2 = 0 then
    0
  else
    1);
  let v4 : Int32 := (if a1 = 0 then
    let x5 : Int32 := (v2 ||| (2 : Int32));
    x5
  else
    v2);
  let x5 : Int32 := (f_X2_isHighestSet a1 a4);
  let v7 : Int32 := (if x5 = 0 then
    v4
  else
    let x8 : Int32 := (v4 ||| (4 : Int32));
    x8);
  let v9 : Int32 := (if a3 = 0 then
    v7
  else
    let x10 : Int32 := (v7 ||| (256 : Int32));
    x10);
  let σ10 : StC := (f_X2_setRegister σ 2 (((σ.1 (2 : Int32).toNatClampNeg) &&& ((-264) : Int32)) ||| v9));
  σ10
def f_X2_logical (σ : StC) (a1 : Int32) (a2 : Int32) (a3 : Int32) : Int32 × StC :=
  let v2 : Int32 := (if a1 = 0 then
    0
  else
    1);
  let σ3 : StC := (f_X2_setFlags σ a1 v2 a2 a3);
  (a1, σ3)
def f_X2_shifted (σ : StC) (a1 : Int32) (a2 : Int32) (a3 : Int32) : Int32 × StC :=
  let x1 : Int32 := ((a1 >>> ((1 : Int32) &&& 31)) ||| a2);
  let v3 : Int32 := (if (a1 &&& (1 : Int32)) = 0 then
    0
  else
    1);
  let σ4 : StC := (f_X2_setFlags σ x1 v3 0 a3);
  (x1, σ4)
def f_X2_add (σ : StC) (a1 : Int32) (a2 : Int32) (a3 : Int32) (a4 : Int32) : Int32 × StC :=
  let x1 : Int32 := ((a1 + a2) + a3);
  let x2 : Int32 := (x1 &&& a4);
  let x3 : Int32 := (f_X2_isHighestSet (((a1 ^^^ a2) ^^^ ((-1) : Int32)) &&& (a1 ^^^ x2)) a4);
  let v5 : Int32 := (if x1 ≤ a4 then
    0
  else
    1);
  let σ6 : StC := (f_X2_setFlags σ x2 v5 x3 a4);
  (x2, σ6)
def f_X2_push (σ : StC) (a1 : Int32) (a2 : Int32) : StC :=
  let σ1 : StC := (f_X2_addToRegister σ 1 (-2));
  if a2 = 0 then
    let σ3 : StC := (f_X0_writeWord σ1 (σ1.1 (1 : Int32).toNatClampNeg) a1);
    σ3
  else
    let σ4 : StC := (f_X0_writeByte σ1 (σ1.1 (1 : Int32).toNatClampNeg) a1);
    σ4
def f_X2_pop (σ : StC) : Int32 × StC :=
  let x1 : Int32 := (f_X0_wordAt σ (σ.1 (1 : Int32).toNatClampNeg));
  let σ2 : StC := (f_X2_addToRegister σ 1 2);
  (x1, σ2)
def f_X2_highestPendingLine (σ : StC) : Int32 :=
  let v4 : Int32 := (if (σ.2.1 &&& (8192 : Int32)) = 0 then
    if (σ.2.1 &&& (4096 : Int32)) = 0 then
      if (σ.2.1 &&& (2048 : Int32)) = 0 then
        if (σ.2.1 &&& (1024 : Int32)) = 0 then
          if (σ.2.1 &&& (512 : Int32)) = 0 then
            if (σ.2.1 &&& (256 : Int32)) = 0 then
              if (σ.2.1 &&& (128 : Int32)) = 0 then
                if (σ.2.1 &&& (64 : Int32)) = 0 then
                  if (σ.2.1 &&& (32 : Int32)) = 0 then
                    if (σ.2.1 &&& (16 : Int32)) = 0 then
                      if (σ.2.1 &&& (8 : Int32)) = 0 then
                        if (σ.2.1 &&& (4 : Int32)) = 0 then
                          if (σ.2.1 &&& (2 : Int32)) = 0 then
                            0
                          else
                            1
                        else
                          2
                      else
                        3
                    else
                      4
                  else
                    5
                else
                  6
              else
                7
            else
              8
          else
            9
        else
          10
      else
        11
    else
      12
  else
    13);
  v4
def f_X2_interrupt (σ : StC) : StC :=
  let x1 : Int32 := (f_X2_highestPendingLine σ);
  let σ2 : StC := (f_X2_push σ (σ.1 (0 : Int32).toNatClampNeg) 0);
  let σ3 : StC := (f_X2_push σ2 (σ2.1 (2 : Int32).toNatClampNeg) 0);
  let x4 : Int32 := (σ3.2.1 &&& (((1 : Int32) <<< (x1 &&& 31)) ^^^ ((-1) : Int32)));
  let σ5 : StC := (f_X2_setRegister (σ3.1, x4, σ3.2.2.1, σ3.2.2.2.1, σ3.2.2.2.2.1, σ3.2.2.2.2.2.1, σ3.2.2.2.2.2.2.1, σ3.2.2.2.2.2.2.2.1, σ3.2.2.2.2.2.2.2.2.1, σ3.2.2.2.2.2.2.2.2.2) 2 ((σ3.1 (2 : Int32).toNatClampNeg) &&& (64 : Int32)));
  let x6 : Int32 := (f_X0_wordAt σ5 ((65504 : Int32) + ((2 : Int32) * x1)));
  let σ7 : StC := (f_X2_setRegister σ5 0 x6);
  let σ8 : StC := (f_X2_spend σ7 6);
  σ8
def f_X2_returnFromInterrupt (σ : StC) : StC :=
  let x1 : Int32 := ((f_X2_pop σ).1);
  let σ2 : StC := ((f_X2_pop σ).2);
  let σ3 : StC := (f_X2_setRegister σ2 2 x1);
  let x4 : Int32 := ((f_X2_pop σ3).1);
  let σ5 : StC := ((f_X2_pop σ3).2);
  let σ6 : StC := (f_X2_setRegister σ5 0 x4);
  let σ7 : StC := (f_X2_spend σ6 5);
  σ7
def f_X2_isUnassigned (a1 : Int32) : Int32 :=
  if a1 < 8192 then
    if a1 < 4096 then
      1
    else
      if a1 ≤ 4864 then
        let x4 : Int32 := ((a1 >>> ((7 : Int32) &&& 31)) &&& (7 : Int32));
        let v6 : Int32 := (if x4 = 1 then
          1
        else
          if x4 = 3 then
            1
          else
            if x4 = 5 then
              1
            else
              0);
        if v6 = 0 then
          0
        else
          if (a1 &&& (64 : Int32)) = 0 then
            0
          else
            1
      else
        1
  else
    0
def f_X2_isJumpTaken (σ : StC) (a1 : Int32) : Int32 :=
  let x1 : Int32 := (f_X2_isSet σ 4);
  let x2 : Int32 := (f_X2_isSet σ 256);
  let v4 : Int32 := (if x1 = x2 then
    1
  else
    0);
  if a1 = 0 then
    let x6 : Int32 := (f_X2_isSet σ 2);
    if x6 = 0 then
      1
    else
      0
  else
    if a1 = 1 then
      let x9 : Int32 := (f_X2_isSet σ 2);
      x9
    else
      if a1 = 2 then
        let x11 : Int32 := (f_X2_isSet σ 1);
        if x11 = 0 then
          1
        else
          0
      else
        if a1 = 3 then
          let x14 : Int32 := (f_X2_isSet σ 1);
          x14
        else
          if a1 = 4 then
            let x16 : Int32 := (f_X2_isSet σ 4);
            x16
          else
            if a1 = 5 then
              v4
            else
              if a1 = 6 then
                if v4 = 0 then
                  1
                else
                  0
              else
                1
def f_X2_doJump (σ : StC) (a1 : Int32) : StC :=
  let x1 : Int32 := (f_X2_isJumpTaken σ ((a1 >>> ((10 : Int32) &&& 31)) &&& (7 : Int32)));
  let v3 : StC := (if x1 = 0 then
    σ
  else
    let x4 : Int32 := (((a1 &&& (1023 : Int32)) ^^^ (512 : Int32)) - (512 : Int32));
    let σ5 : StC := (f_X2_addToRegister σ 0 ((2 : Int32) * x4));
    σ5);
  let σ4 : StC := (f_X2_spend v3 2);
  σ4
def f_X2_kindOfSource (a1 : Int32) (a2 : Int32) : Int32 :=
  if a1 < 65536 then
    tabC 0 ((a2 >>> ((4 : Int32) &&& 31)) &&& (3 : Int32)).toNatClampNeg
  else
    0
def f_X2_twoPartsCycles (a1 : Int32) : Nat :=
  if 65536 ≤ a1 then
    if a1 = 65536 then
      2
    else
      1
  else
    3
def f_X2_indexedPlace (σ : StC) (a1 : Int32) : Int32 × StC :=
  let v2 : Int32 := (if a1 = 2 then
    0
  else
    σ.1 (a1 &&& (15 : Int32)).toNatClampNeg);
  let x3 : Int32 := (f_X0_wordAt σ (σ.1 (0 : Int32).toNatClampNeg));
  let σ4 : StC := (f_X2_addToRegister σ 0 2);
  ((x3 + v2) &&& (65535 : Int32), σ4)
def f_X2_destinationPlace (σ : StC) (a1 : Int32) : Int32 × StC :=
  let x1 : Int32 := (a1 &&& (15 : Int32));
  if (a1 &&& (128 : Int32)) = 0 then
    ((65536 : Int32) + x1, σ)
  else
    let x3 : Int32 := ((f_X2_indexedPlace σ x1).1);
    let σ4 : StC := ((f_X2_indexedPlace σ x1).2);
    (x3, σ4)
def f_X2_sourcePlace (σ : StC) (a1 : Int32) (a2 : Int32) : Int32 × StC :=
  let x1 : Int32 := ((a1 >>> ((4 : Int32) &&& 31)) &&& (3 : Int32));
  if a2 = 3 then
    let v21 : Int32 := (if x1 = 3 then
      65535
    else
      x1);
    ((131072 : Int32) + v21, σ)
  else
    if x1 = 0 then
      ((65536 : Int32) + a2, σ)
    else
      if x1 = 1 then
        let x18 : Int32 := ((f_X2_indexedPlace σ a2).1);
        let σ19 : StC := ((f_X2_indexedPlace σ a2).2);
        (x18, σ19)
      else
        if a2 = 2 then
          let v17 : Int32 := (if x1 = 2 then
            4
          else
            8);
          ((131072 : Int32) + v17, σ)
        else
          let x6 : Int32 := (σ.1 a2.toNatClampNeg);
          let v8 : StC := (if x1 = 3 then
            let v10 : Int32 := (if (a1 &&& (64 : Int32)) = 0 then
              0
            else
              if a2 = 0 then
                0
              else
                if a2 = 1 then
                  0
                else
                  1);
            let v12 : Int32 := (if v10 = 0 then
              2
            else
              1);
            let σ13 : StC := (f_X2_addToRegister σ a2 v12);
            σ13
          else
            σ);
          (x6, v8)
def f_X2_valueAt (σ : StC) (a1 : Int32) (a2 : Int32) : Int32 :=
  if 65536 ≤ a1 then
    let v3 : Int32 := (if 131072 ≤ a1 then
      a1 - (131072 : Int32)
    else
      σ.1 (a1 &&& (15 : Int32)).toNatClampNeg);
    if a2 = 0 then
      v3
    else
      v3 &&& (255 : Int32)
  else
    if a2 = 0 then
      let x6 : Int32 := (f_X0_wordAt σ a1);
      x6
    else
      let x7 : Int32 := (f_X0_byteAt σ a1);
      x7
def f_X2_put (σ : StC) (a1 : Int32) (a2 : Int32) (a3 : Int32) : StC :=
  if a1 < 131072 then
    if a1 < 65536 then
      if a3 = 0 then
        let σ4 : StC := (f_X0_writeWord σ a1 a2);
        σ4
      else
        let σ5 : StC := (f_X0_writeByte σ a1 a2);
        σ5
    else
      let σ6 : StC := (f_X2_setRegister σ (a1 &&& (15 : Int32)) a2);
      σ6
  else
    σ
def f_X2_change (σ : StC) (a1 : Int32) (a2 : Int32) (a3 : Int32) : Int32 × StC :=
  let v2 : Int32 := (if a3 = 0 then
    65535
  else
    255);
  let x3 : Int32 := ((v2 + (1 : Int32)) >>> ((1 : Int32) &&& 31));
  if a1 = 0 then
    let x5 : Int32 := (f_X2_isSet σ 1);
    let v7 : Int32 := (if x5 = 0 then
      0
    else
      x3);
    let x8 : Int32 := ((f_X2_shifted σ a2 v7 v2).1);
    let σ9 : StC := ((f_X2_shifted σ a2 v7 v2).2);
    (x8, σ9)
  else
    if a1 = 1 then
      (((a2 &&& (255 : Int32)) <<< ((8 : Int32) &&& 31)) ||| (a2 >>> ((8 : Int32) &&& 31)), σ)
    else
      if a1 = 2 then
        let x12 : Int32 := ((f_X2_shifted σ a2 (a2 &&& x3) v2).1);
        let σ13 : StC := ((f_X2_shifted σ a2 (a2 &&& x3) v2).2);
        (x12, σ13)
      else
        let x14 : Int32 := ((f_X2_logical σ ((((a2 &&& (255 : Int32)) ^^^ (128 : Int32)) - (128 : Int32)) &&& (65535 : Int32)) 0 v2).1);
        let σ15 : StC := ((f_X2_logical σ ((((a2 &&& (255 : Int32)) ^^^ (128 : Int32)) - (128 : Int32)) &&& (65535 : Int32)) 0 v2).2);
        (x14, σ15)
def f_X2_addDecimal (σ : StC) (a1 : Int32) (a2 : Int32) (a3 : Int32) : Int32 × StC :=
  let x1 : Int32 := ((σ.1 (2 : Int32).toNatClampNeg) &&& (1 : Int32));
  let v4 : Int32 × Int32 × Int32 := (if (a3 >>> ((0 : Int32) &&& 31)) = 0 then
    (0, x1, 0)
  else
    let x5 : Int32 := ((((a1 >>> ((0 : Int32) &&& 31)) &&& (15 : Int32)) + ((a2 >>> ((0 : Int32) &&& 31)) &&& (15 : Int32))) + x1);
    let v7 : Int32 := (if x5 ≤ 9 then
      0
    else
      1);
    let x8 : Int32 := ((0 : Int32) ||| (((x5 - ((10 : Int32) * v7)) &&& (15 : Int32)) <<< ((0 : Int32) &&& 31)));
    if (a3 >>> ((4 : Int32) &&& 31)) = 0 then
      (4, v7, x8)
    else
      let x11 : Int32 := ((((a1 >>> ((4 : Int32) &&& 31)) &&& (15 : Int32)) + ((a2 >>> ((4 : Int32) &&& 31)) &&& (15 : Int32))) + v7);
      let v13 : Int32 := (if x11 ≤ 9 then
        0
      else
        1);
      let x14 : Int32 := (x8 ||| (((x11 - ((10 : Int32) * v13)) &&& (15 : Int32)) <<< ((4 : Int32) &&& 31)));
      if (a3 >>> ((8 : Int32) &&& 31)) = 0 then
        (8, v13, x14)
      else
        let x17 : Int32 := ((((a1 >>> ((8 : Int32) &&& 31)) &&& (15 : Int32)) + ((a2 >>> ((8 : Int32) &&& 31)) &&& (15 : Int32))) + v13);
        let v19 : Int32 := (if x17 ≤ 9 then
          0
        else
          1);
        let x20 : Int32 := (x14 ||| (((x17 - ((10 : Int32) * v19)) &&& (15 : Int32)) <<< ((8 : Int32) &&& 31)));
        if (a3 >>> ((12 : Int32) &&& 31)) = 0 then
          (12, v19, x20)
        else
          let x23 : Int32 := ((((a1 >>> ((12 : Int32) &&& 31)) &&& (15 : Int32)) + ((a2 >>> ((12 : Int32) &&& 31)) &&& (15 : Int32))) + v19);
          let v25 : Int32 := (if x23 ≤ 9 then
            0
          else
            1);
          let x26 : Int32 := (x20 ||| (((x23 - ((10 : Int32) * v25)) &&& (15 : Int32)) <<< ((12 : Int32) &&& 31)));
          (16, v25, x26));
  let v6 : Int32 := (if v4.2.1 = 1 then
    1
  else
    0);
  let σ7 : StC := (f_X2_setFlags σ v4.2.2 v6 0 a3);
  (v4.2.2, σ7)
def f_X2_combine (σ : StC) (a1 : Int32) (a2 : Int32) (a3 : Int32) (a4 : Int32) : Int32 × StC :=
  let v2 : Int32 := (if a4 = 0 then
    65535
  else
    255);
  if a1 = 4 then
    (a2, σ)
  else
    if a1 = 5 then
      let x5 : Int32 := ((f_X2_add σ a2 a3 0 v2).1);
      let σ6 : StC := ((f_X2_add σ a2 a3 0 v2).2);
      (x5, σ6)
    else
      if a1 = 6 then
        let x8 : Int32 := ((f_X2_add σ a2 a3 ((σ.1 (2 : Int32).toNatClampNeg) &&& (1 : Int32)) v2).1);
        let σ9 : StC := ((f_X2_add σ a2 a3 ((σ.1 (2 : Int32).toNatClampNeg) &&& (1 : Int32)) v2).2);
        (x8, σ9)
      else
        if a1 = 7 then
          let x11 : Int32 := ((f_X2_add σ (a2 ^^^ v2) a3 ((σ.1 (2 : Int32).toNatClampNeg) &&& (1 : Int32)) v2).1);
          let σ12 : StC := ((f_X2_add σ (a2 ^^^ v2) a3 ((σ.1 (2 : Int32).toNatClampNeg) &&& (1 : Int32)) v2).2);
          (x11, σ12)
        else
          if a1 = 8 then
            let x14 : Int32 := ((f_X2_add σ (a2 ^^^ v2) a3 1 v2).1);
            let σ15 : StC := ((f_X2_add σ (a2 ^^^ v2) a3 1 v2).2);
            (x14, σ15)
          else
            if a1 = 9 then
              let x17 : Int32 := ((f_X2_add σ (a2 ^^^ v2) a3 1 v2).1);
              let σ18 : StC := ((f_X2_add σ (a2 ^^^ v2) a3 1 v2).2);
              (x17, σ18)
            else
              if a1 = 10 then
                let x20 : Int32 := ((f_X2_addDecimal σ a2 a3 v2).1);
                let σ21 : StC := ((f_X2_addDecimal σ a2 a3 v2).2);
                (x20, σ21)
              else
                if a1 = 11 then
                  let x23 : Int32 := ((f_X2_logical σ (a2 &&& a3) 0 v2).1);
                  let σ24 : StC := ((f_X2_logical σ (a2 &&& a3) 0 v2).2);
                  (x23, σ24)
                else
                  if a1 = 12 then
                    (a3 &&& (a2 ^^^ ((-1) : Int32)), σ)
                  else
                    if a1 = 13 then
                      (a3 ||| a2, σ)
                    else
                      if a1 = 14 then
                        let x28 : Int32 := (f_X2_isHighestSet (a2 &&& a3) v2);
                        let x29 : Int32 := ((f_X2_logical σ (a2 ^^^ a3) x28 v2).1);
                        let σ30 : StC := ((f_X2_logical σ (a2 ^^^ a3) x28 v2).2);
                        (x29, σ30)
                      else
                        let x31 : Int32 := ((f_X2_logical σ (a2 &&& a3) 0 v2).1);
                        let σ32 : StC := ((f_X2_logical σ (a2 &&& a3) 0 v2).2);
                        (x31, σ32)
def f_X2_doTwoParts (σ : StC) (a1 : Int32) : StC :=
  let v2 : Int32 := (if (a1 &&& (64 : Int32)) = 0 then
    0
  else
    1);
  let x3 : Int32 := ((f_X2_sourcePlace σ a1 ((a1 >>> ((8 : Int32) &&& 31)) &&& (15 : Int32))).1);
  let σ4 : StC := ((f_X2_sourcePlace σ a1 ((a1 >>> ((8 : Int32) &&& 31)) &&& (15 : Int32))).2);
  let x5 : Int32 := (f_X2_valueAt σ4 x3 v2);
  let x6 : Int32 := ((f_X2_destinationPlace σ4 a1).1);
  let σ7 : StC := ((f_X2_destinationPlace σ4 a1).2);
  let x8 : Int32 := (f_X2_valueAt σ7 x6 v2);
  let x9 : Int32 := (a1 >>> ((12 : Int32) &&& 31));
  let x10 : Int32 := ((f_X2_combine σ7 x9 x5 x8 v2).1);
  let σ11 : StC := ((f_X2_combine σ7 x9 x5 x8 v2).2);
  let v13 : StC := (if x9 = 9 then
    σ11
  else
    if x9 = 11 then
      σ11
    else
      let σ15 : StC := (f_X2_put σ11 x6 x10 v2);
      σ15);
  let x14 : Nat := (f_X2_twoPartsCycles x6);
  let x15 : Int32 := (f_X2_kindOfSource x3 a1);
  let σ16 : StC := (f_X2_spendByKind v13 x14 x15);
  σ16
def f_X2_doOnePart (σ : StC) (a1 : Int32) : StC :=
  let v2 : Int32 := (if (a1 &&& (64 : Int32)) = 0 then
    0
  else
    1);
  let x3 : Int32 := ((f_X2_sourcePlace σ a1 (a1 &&& (15 : Int32))).1);
  let σ4 : StC := ((f_X2_sourcePlace σ a1 (a1 &&& (15 : Int32))).2);
  let x5 : Int32 := (f_X2_valueAt σ4 x3 v2);
  let x6 : Int32 := (f_X2_kindOfSource x3 a1);
  let x7 : Int32 := ((a1 >>> ((7 : Int32) &&& 31)) &&& (7 : Int32));
  if x7 = 4 then
    let σ17 : StC := (f_X2_push σ4 x5 v2);
    if (a1 &&& (63 : Int32)) = 48 then
      let σ20 : StC := (f_X2_spend σ17 4);
      σ20
    else
      let σ19 : StC := (f_X2_spendByKind σ17 5 x6);
      σ19
  else
    if x7 = 5 then
      let σ14 : StC := (f_X2_push σ4 (σ4.1 (0 : Int32).toNatClampNeg) 0);
      let σ15 : StC := (f_X2_setRegister σ14 0 x5);
      let σ16 : StC := (f_X2_spendByKind σ15 6 x6);
      σ16
    else
      let x10 : Int32 := ((f_X2_change σ4 x7 x5 v2).1);
      let σ11 : StC := ((f_X2_change σ4 x7 x5 v2).2);
      let σ12 : StC := (f_X2_put σ11 x3 x10 v2);
      let σ13 : StC := (f_X2_spendByKind σ12 4 x6);
      σ13
def f_X2_step (σ : StC) : Int32 × StC :=
  let x1 : Int32 := (σ.1 (2 : Int32).toNatClampNeg);
  if (x1 &&& (8 : Int32)) = 0 then
    if (x1 &&& (16 : Int32)) = 0 then
      let x4 : Int32 := (f_X0_wordAt σ (σ.1 (0 : Int32).toNatClampNeg));
      let x5 : Int32 := (f_X2_isUnassigned x4);
      if x5 = 0 then
        let σ7 : StC := (f_X2_addToRegister σ 0 2);
        let v9 : StC := (if x4 < 16384 then
          if x4 < 8192 then
            if x4 = 4864 then
              let σ13 : StC := (f_X2_returnFromInterrupt σ7);
              σ13
            else
              let σ12 : StC := (f_X2_doOnePart σ7 x4);
              σ12
          else
            let σ14 : StC := (f_X2_doJump σ7 x4);
            σ14
        else
          let σ15 : StC := (f_X2_doTwoParts σ7 x4);
          σ15);
        (0, v9)
      else
        (2, σ)
    else
      (1, σ)
  else
    if σ.2.1 = 0 then
      if (x1 &&& (16 : Int32)) = 0 then
        let x18 : Int32 := (f_X0_wordAt σ (σ.1 (0 : Int32).toNatClampNeg));
        let x19 : Int32 := (f_X2_isUnassigned x18);
        if x19 = 0 then
          let σ21 : StC := (f_X2_addToRegister σ 0 2);
          let v23 : StC := (if x18 < 16384 then
            if x18 < 8192 then
              if x18 = 4864 then
                let σ27 : StC := (f_X2_returnFromInterrupt σ21);
                σ27
              else
                let σ26 : StC := (f_X2_doOnePart σ21 x18);
                σ26
            else
              let σ28 : StC := (f_X2_doJump σ21 x18);
              σ28
          else
            let σ29 : StC := (f_X2_doTwoParts σ21 x18);
            σ29);
          (0, v23)
        else
          (2, σ)
      else
        (1, σ)
    else
      let σ30 : StC := (f_X2_interrupt σ);
      (0, σ30)
def f_X2_poke (σ : StC) (a1 : Int32) (a2 : Int32) : Int32 × StC :=
  if a1 < 0 then
    (0, σ)
  else
    if 65536 ≤ a1 then
      (0, σ)
    else
      if a2 < 0 then
        (0, σ)
      else
        if a2 ≤ 255 then
          let σ5 : StC := (f_X0_placeByte σ a1 a2);
          (1, σ5)
        else
          (0, σ)
def f_X2_peek (σ : StC) (a1 : Int32) : Int32 :=
  if a1 < 0 then
    (-1)
  else
    if a1 < 65536 then
      let x3 : Int32 := (f_X0_byteAt σ a1);
      x3
    else
      (-1)
def f_X2_reg (σ : StC) (a1 : Int32) : Int32 :=
  if a1 < 0 then
    (-1)
  else
    if a1 < 16 then
      σ.1 a1.toNatClampNeg
    else
      (-1)
def f_X2_raise (σ : StC) (a1 : Int32) : Int32 × StC :=
  if a1 < 0 then
    (0, σ)
  else
    if a1 < 14 then
      let x3 : Int32 := (σ.2.1 ||| ((1 : Int32) <<< (a1 &&& 31)));
      (1, (σ.1, x3, σ.2.2.1, σ.2.2.2.1, σ.2.2.2.2.1, σ.2.2.2.2.2.1, σ.2.2.2.2.2.2.1, σ.2.2.2.2.2.2.2.1, σ.2.2.2.2.2.2.2.2.1, σ.2.2.2.2.2.2.2.2.2))
    else
      (0, σ)
def f_X2_cyclesOf (σ : StC) : Int32 :=
  σ.2.2.1
def f_X2_pending (σ : StC) : Int32 :=
  σ.2.1
def f_X2_mode (σ : StC) : Int32 :=
  σ.2.2.2.2.2.2.2.2.2
def f_X2_init_ (σ : StC) : StC :=
  let σ18 : StC := (f_X1_clear (upd (upd (upd (upd (upd (upd (upd (upd (upd (upd (upd (upd (upd (upd (upd (upd σ.1 ((0 : Int32).toNatClampNeg) 0) ((1 : Int32).toNatClampNeg) 0) ((2 : Int32).toNatClampNeg) 0) ((3 : Int32).toNatClampNeg) 0) ((4 : Int32).toNatClampNeg) 0) ((5 : Int32).toNatClampNeg) 0) ((6 : Int32).toNatClampNeg) 0) ((7 : Int32).toNatClampNeg) 0) ((8 : Int32).toNatClampNeg) 0) ((9 : Int32).toNatClampNeg) 0) ((10 : Int32).toNatClampNeg) 0) ((11 : Int32).toNatClampNeg) 0) ((12 : Int32).toNatClampNeg) 0) ((13 : Int32).toNatClampNeg) 0) ((14 : Int32).toNatClampNeg) 0) ((15 : Int32).toNatClampNeg) 0, 0, 0, σ.2.2.2.1, σ.2.2.2.2.1, σ.2.2.2.2.2.1, σ.2.2.2.2.2.2.1, σ.2.2.2.2.2.2.2.1, σ.2.2.2.2.2.2.2.2.1, σ.2.2.2.2.2.2.2.2.2));
  let x19 : Int32 := (f_X0_wordAt σ18 65534);
  let σ20 : StC := (f_X2_setRegister σ18 0 x19);
  σ20
def f_X3_isMultiplier (a1 : Int32) : Int32 :=
  if a1 < 304 then
    0
  else
    if 320 ≤ a1 then
      0
    else
      1
def f_X3_which (a1 : Int32) : Int32 :=
  if 312 ≤ a1 then
    ((a1 - (304 : Int32)) / (2 : Int32)) - (3 : Int32)
  else
    0
def f_X3_isAddress (a1 : Int32) : Int32 :=
  if a1 < 0 then
    0
  else
    if 65536 ≤ a1 then
      0
    else
      1
def f_X3_withByte (a1 : Int32) (a2 : Int32) (a3 : Int32) : Int32 :=
  if (a2 &&& (1 : Int32)) = 0 then
    (a1 &&& (65280 : Int32)) ||| a3
  else
    (a1 &&& (255 : Int32)) ||| (a3 <<< ((8 : Int32) &&& 31))
def f_X3_sort (a1 : Int32) (a2 : Int32) : Int32 :=
  if a1 = 0 then
    0
  else
    if a2 = 3 then
      0
    else
      if a2 = 2 then
        if a1 ≤ 1 then
          if a1 = 1 then
            3
          else
            a1 - (1 : Int32)
        else
          0
      else
        if a1 = 1 then
          3
        else
          a1 - (1 : Int32)
def f_X3_pick (a1 : Int32) (a2 : Int32) : Int32 :=
  (a1 >>> (((4 : Int32) * a2) &&& 31)) &&& (15 : Int32)
def f_X3_isAssigned (a1 : Int32) : Int32 :=
  if a1 < 8192 then
    if a1 < 4096 then
      0
    else
      if a1 ≤ 4864 then
        let x4 : Int32 := ((a1 >>> ((7 : Int32) &&& 31)) &&& (7 : Int32));
        if a1 = 4864 then
          1
        else
          if (a1 &&& (64 : Int32)) = 0 then
            1
          else
            if x4 = 0 then
              1
            else
              if x4 = 2 then
                1
              else
                if x4 = 4 then
                  1
                else
                  0
      else
        0
  else
    1
def f_X3_wordAt (σ : StR) (a1 : Int32) : Int32 :=
  let x1 : Int32 := (f_X3_isMultiplier a1);
  if x1 = 0 then
    (σ.1 (a1 >>> ((1 : Int32) &&& 31)).toNatClampNeg) &&& (65535 : Int32)
  else
    let x3 : Int32 := (f_X3_which a1);
    σ.2.2.1 x3.toNatClampNeg
def f_X3_byteAt (σ : StR) (a1 : Int32) : Int32 :=
  let x1 : Int32 := (f_X3_wordAt σ a1);
  (x1 >>> (((8 : Int32) * (a1 &&& (1 : Int32))) &&& 31)) &&& (255 : Int32)
def f_X3_valueAt (σ : StR) (a1 : Int32) : Int32 :=
  if σ.2.2.2.2.2.2.2.2 = 0 then
    let x2 : Int32 := (f_X3_wordAt σ a1);
    x2
  else
    let x3 : Int32 := (f_X3_byteAt σ a1);
    x3
def f_X3_product (σ : StR) : StR :=
  let v2 : Int64 := (if (σ.2.2.2.1 - σ.2.2.2.1 / (2 : Int32) * (2 : Int32)) = 0 then
    (σ.2.2.1 (0 : Int32).toNatClampNeg).toInt64
  else
    ((σ.2.2.1 (0 : Int32).toNatClampNeg).toInt16.toInt32).toInt64);
  let v4 : Int64 := (if (σ.2.2.2.1 - σ.2.2.2.1 / (2 : Int32) * (2 : Int32)) = 0 then
    (σ.2.2.1 (1 : Int32).toNatClampNeg).toInt64
  else
    ((σ.2.2.1 (1 : Int32).toNatClampNeg).toInt16.toInt32).toInt64);
  let x5 : Int64 := (v2 * v4);
  let v7 : Int64 := (if 2 ≤ σ.2.2.2.1 then
    (((σ.2.2.1 (3 : Int32).toNatClampNeg).toInt64) <<< ((16 : Int32).toInt64 &&& 63)) ||| ((σ.2.2.1 (2 : Int32).toNatClampNeg).toInt64)
  else
    0);
  let x8 : Int64 := (v7 + (x5 &&& (4294967295 : Int64)));
  let x9 : Int32 := ((x8 &&& (65535 : Int64)).toInt32);
  let x10 : Int32 := (((x8 >>> ((16 : Int32).toInt64 &&& 63)) &&& (65535 : Int64)).toInt32);
  if σ.2.2.2.1 = 2 then
    let x17 : Int32 := ((x8 >>> ((32 : Int32).toInt64 &&& 63)).toInt32);
    (σ.1, σ.2.1, upd (upd (upd σ.2.2.1 ((2 : Int32).toNatClampNeg) x9) ((3 : Int32).toNatClampNeg) x10) ((4 : Int32).toNatClampNeg) x17, σ.2.2.2.1, σ.2.2.2.2.1, σ.2.2.2.2.2.1, σ.2.2.2.2.2.2.1, σ.2.2.2.2.2.2.2.1, σ.2.2.2.2.2.2.2.2)
  else
    let v13 : Int32 := (if (σ.2.2.2.1 - σ.2.2.2.1 / (2 : Int32) * (2 : Int32)) = 1 then
      if σ.2.2.2.1 = 1 then
        if 0 ≤ (lg_cmp x5 0) then
          0
        else
          65535
      else
        if (upd (upd σ.2.2.1 ((2 : Int32).toNatClampNeg) x9) ((3 : Int32).toNatClampNeg) x10 (3 : Int32).toNatClampNeg) ≤ 32767 then
          0
        else
          65535
    else
      0);
    (σ.1, σ.2.1, upd (upd (upd σ.2.2.1 ((2 : Int32).toNatClampNeg) x9) ((3 : Int32).toNatClampNeg) x10) ((4 : Int32).toNatClampNeg) v13, σ.2.2.2.1, σ.2.2.2.2.1, σ.2.2.2.2.2.1, σ.2.2.2.2.2.2.1, σ.2.2.2.2.2.2.2.1, σ.2.2.2.2.2.2.2.2)
def f_X3_multiply (σ : StR) (a1 : Int32) (a2 : Int32) : StR :=
  if 4 ≤ a1 then
    if a1 = 4 then
      let σ4 : StR := (f_X3_product (σ.1, σ.2.1, upd σ.2.2.1 ((1 : Int32).toNatClampNeg) a2, σ.2.2.2.1, σ.2.2.2.2.1, σ.2.2.2.2.2.1, σ.2.2.2.2.2.2.1, σ.2.2.2.2.2.2.2.1, σ.2.2.2.2.2.2.2.2));
      σ4
    else
      if 7 ≤ a1 then
        σ
      else
        (σ.1, σ.2.1, upd σ.2.2.1 ((a1 - (3 : Int32)).toNatClampNeg) a2, σ.2.2.2.1, σ.2.2.2.2.1, σ.2.2.2.2.2.1, σ.2.2.2.2.2.2.1, σ.2.2.2.2.2.2.2.1, σ.2.2.2.2.2.2.2.2)
  else
    (σ.1, σ.2.1, upd σ.2.2.1 ((0 : Int32).toNatClampNeg) a2, a1, σ.2.2.2.2.1, σ.2.2.2.2.2.1, σ.2.2.2.2.2.2.1, σ.2.2.2.2.2.2.2.1, σ.2.2.2.2.2.2.2.2)
def f_X3_setWord (σ : StR) (a1 : Int32) (a2 : Int32) : StR :=
  let x1 : Int32 := (f_X3_isMultiplier a1);
  if x1 = 0 then
    (upd σ.1 ((a1 >>> ((1 : Int32) &&& 31)).toNatClampNeg) (vp_nar .short a2.toInt16.toInt32), σ.2.1, σ.2.2.1, σ.2.2.2.1, σ.2.2.2.2.1, σ.2.2.2.2.2.1, σ.2.2.2.2.2.2.1, σ.2.2.2.2.2.2.2.1, σ.2.2.2.2.2.2.2.2)
  else
    let σ3 : StR := (f_X3_multiply σ ((a1 - (304 : Int32)) / (2 : Int32)) a2);
    σ3
def f_X3_setByte (σ : StR) (a1 : Int32) (a2 : Int32) : StR :=
  let x1 : Int32 := (f_X3_isMultiplier a1);
  if x1 = 0 then
    let x5 : Int32 := (f_X3_withByte ((σ.1 (a1 >>> ((1 : Int32) &&& 31)).toNatClampNeg) &&& (65535 : Int32)) a1 a2);
    (upd σ.1 ((a1 >>> ((1 : Int32) &&& 31)).toNatClampNeg) (vp_nar .short x5.toInt16.toInt32), σ.2.1, σ.2.2.1, σ.2.2.2.1, σ.2.2.2.2.1, σ.2.2.2.2.2.1, σ.2.2.2.2.2.2.1, σ.2.2.2.2.2.2.2.1, σ.2.2.2.2.2.2.2.2)
  else
    if (a1 &&& (1 : Int32)) = 0 then
      let σ4 : StR := (f_X3_multiply σ ((a1 - (304 : Int32)) / (2 : Int32)) a2);
      σ4
    else
      σ
def f_X3_setRegister (σ : StR) (a1 : Int32) (a2 : Int32) : StR :=
  if a1 = 3 then
    σ
  else
    let v3 : Int32 := (if a1 = 0 then
      a2 &&& (65534 : Int32)
    else
      a2 &&& (65535 : Int32));
    (σ.1, upd σ.2.1 a1.toNatClampNeg v3, σ.2.2.1, σ.2.2.2.1, σ.2.2.2.2.1, σ.2.2.2.2.2.1, σ.2.2.2.2.2.2.1, σ.2.2.2.2.2.2.2.1, σ.2.2.2.2.2.2.2.2)
def f_X3_write (σ : StR) (a1 : Int32) (a2 : Int32) : StR :=
  if 16 ≤ a1 then
    if a1 < 65536 then
      σ
    else
      if σ.2.2.2.2.2.2.2.2 = 0 then
        let σ6 : StR := (f_X3_setWord σ (a1 - (65536 : Int32)) a2);
        σ6
      else
        let σ7 : StR := (f_X3_setByte σ (a1 - (65536 : Int32)) a2);
        σ7
  else
    let σ8 : StR := (f_X3_setRegister σ a1 a2);
    σ8
def f_X3_spend (σ : StR) (a1 : Int32) : StR :=
  let x1 : Int32 := ((σ.2.2.2.2.2.1 + a1) &&& (1073741823 : Int32));
  (σ.1, σ.2.1, σ.2.2.1, σ.2.2.2.1, σ.2.2.2.2.1, x1, σ.2.2.2.2.2.2.1, σ.2.2.2.2.2.2.2.1, σ.2.2.2.2.2.2.2.2)
def f_X3_flag (σ : StR) (a1 : Int32) : Int32 :=
  if ((σ.2.1 (2 : Int32).toNatClampNeg) &&& a1) = 0 then
    0
  else
    1
def f_X3_setFlag (σ : StR) (a1 : Int32) (a2 : Int32) : StR :=
  let v2 : Int32 := (if a2 = 0 then
    (σ.2.1 (2 : Int32).toNatClampNeg) &&& (a1 ^^^ ((-1) : Int32))
  else
    (σ.2.1 (2 : Int32).toNatClampNeg) ||| a1);
  (σ.1, upd σ.2.1 ((2 : Int32).toNatClampNeg) v2, σ.2.2.1, σ.2.2.2.1, σ.2.2.2.2.1, σ.2.2.2.2.2.1, σ.2.2.2.2.2.2.1, σ.2.2.2.2.2.2.2.1, σ.2.2.2.2.2.2.2.2)
def f_X3_high (σ : StR) : Int32 :=
  if σ.2.2.2.2.2.2.2.2 = 0 then
    32768
  else
    128
def f_X3_all (σ : StR) : Int32 :=
  if σ.2.2.2.2.2.2.2.2 = 0 then
    65535
  else
    255
def f_X3_flags (σ : StR) (a1 : Int32) (a2 : Int32) (a3 : Int32) : StR :=
  let σ1 : StR := (f_X3_setFlag σ 1 a2);
  let v3 : Int32 := (if a1 = 0 then
    1
  else
    0);
  let σ4 : StR := (f_X3_setFlag σ1 2 v3);
  let x5 : Int32 := (f_X3_high σ4);
  let v7 : Int32 := (if (a1 &&& x5) = 0 then
    0
  else
    1);
  let σ8 : StR := (f_X3_setFlag σ4 4 v7);
  let σ9 : StR := (f_X3_setFlag σ8 256 a3);
  σ9
def f_X3_sum (σ : StR) (a1 : Int32) (a2 : Int32) (a3 : Int32) : Int32 × StR :=
  let x1 : Int32 := ((a1 + a2) + a3);
  let x2 : Int32 := (f_X3_all σ);
  let x3 : Int32 := (x1 &&& x2);
  let x4 : Int32 := (f_X3_all σ);
  let v6 : Int32 := (if x1 ≤ x4 then
    0
  else
    1);
  let x7 : Int32 := (f_X3_high σ);
  let v9 : Int32 := (if ((a1 ^^^ a2) &&& x7) = 0 then
    let x10 : Int32 := (f_X3_high σ);
    if ((a1 ^^^ x3) &&& x10) = 0 then
      0
    else
      1
  else
    0);
  let σ10 : StR := (f_X3_flags σ x3 v6 v9);
  (x3, σ10)
def f_X3_number (σ : StR) (a1 : Int32) : StR :=
  let v2 : Int32 := (if σ.2.2.2.2.2.2.2.2 = 0 then
    a1
  else
    a1 &&& (255 : Int32));
  (σ.1, σ.2.1, σ.2.2.1, σ.2.2.2.1, σ.2.2.2.2.1, σ.2.2.2.2.2.1, v2, 16, σ.2.2.2.2.2.2.2.2)
def f_X3_register (σ : StR) (a1 : Int32) : StR :=
  let v2 : Int32 := (if σ.2.2.2.2.2.2.2.2 = 0 then
    σ.2.1 a1.toNatClampNeg
  else
    (σ.2.1 a1.toNatClampNeg) &&& (255 : Int32));
  let v4 : Int32 := (if a1 = 3 then
    16
  else
    a1);
  (σ.1, σ.2.1, σ.2.2.1, σ.2.2.2.1, σ.2.2.2.2.1, σ.2.2.2.2.2.1, v2, v4, σ.2.2.2.2.2.2.2.2)
def f_X3_memory (σ : StR) (a1 : Int32) : StR :=
  let x1 : Int32 := (f_X3_valueAt σ (a1 &&& (65535 : Int32)));
  let x2 : Int32 := ((65536 : Int32) + (a1 &&& (65535 : Int32)));
  (σ.1, σ.2.1, σ.2.2.1, σ.2.2.2.1, σ.2.2.2.2.1, σ.2.2.2.2.2.1, x1, x2, σ.2.2.2.2.2.2.2.2)
def f_X3_decimal (σ : StR) (a1 : Int32) (a2 : Int32) : Int32 × StR :=
  let x1 : Int32 := (f_X3_flag σ 1);
  if σ.2.2.2.2.2.2.2.2 = 0 then
    let x4 : Int32 := ((((a1 >>> ((0 : Int32) &&& 31)) &&& (15 : Int32)) + ((a2 >>> ((0 : Int32) &&& 31)) &&& (15 : Int32))) + x1);
    let v6 : Int32 := (if x4 ≤ 9 then
      0
    else
      1);
    let x7 : Int32 := ((0 : Int32) ||| (((x4 - ((10 : Int32) * v6)) &&& (15 : Int32)) <<< ((0 : Int32) &&& 31)));
    let x10 : Int32 := ((((a1 >>> ((4 : Int32) &&& 31)) &&& (15 : Int32)) + ((a2 >>> ((4 : Int32) &&& 31)) &&& (15 : Int32))) + v6);
    let v12 : Int32 := (if x10 ≤ 9 then
      0
    else
      1);
    let x13 : Int32 := (x7 ||| (((x10 - ((10 : Int32) * v12)) &&& (15 : Int32)) <<< ((4 : Int32) &&& 31)));
    let x16 : Int32 := ((((a1 >>> ((8 : Int32) &&& 31)) &&& (15 : Int32)) + ((a2 >>> ((8 : Int32) &&& 31)) &&& (15 : Int32))) + v12);
    let v18 : Int32 := (if x16 ≤ 9 then
      0
    else
      1);
    let x19 : Int32 := (x13 ||| (((x16 - ((10 : Int32) * v18)) &&& (15 : Int32)) <<< ((8 : Int32) &&& 31)));
    let x22 : Int32 := ((((a1 >>> ((12 : Int32) &&& 31)) &&& (15 : Int32)) + ((a2 >>> ((12 : Int32) &&& 31)) &&& (15 : Int32))) + v18);
    let v24 : Int32 := (if x22 ≤ 9 then
      0
    else
      1);
    let x25 : Int32 := (x19 ||| (((x22 - ((10 : Int32) * v24)) &&& (15 : Int32)) <<< ((12 : Int32) &&& 31)));
    let v29 : Int32 := (if v24 = 1 then
      1
    else
      0);
    let σ30 : StR := (f_X3_flags σ x25 v29 0);
    (x25, σ30)
  else
    let x32 : Int32 := ((((a1 >>> ((0 : Int32) &&& 31)) &&& (15 : Int32)) + ((a2 >>> ((0 : Int32) &&& 31)) &&& (15 : Int32))) + x1);
    let v34 : Int32 := (if x32 ≤ 9 then
      0
    else
      1);
    let x35 : Int32 := ((0 : Int32) ||| (((x32 - ((10 : Int32) * v34)) &&& (15 : Int32)) <<< ((0 : Int32) &&& 31)));
    let x38 : Int32 := ((((a1 >>> ((4 : Int32) &&& 31)) &&& (15 : Int32)) + ((a2 >>> ((4 : Int32) &&& 31)) &&& (15 : Int32))) + v34);
    let v40 : Int32 := (if x38 ≤ 9 then
      0
    else
      1);
    let x41 : Int32 := (x35 ||| (((x38 - ((10 : Int32) * v40)) &&& (15 : Int32)) <<< ((4 : Int32) &&& 31)));
    let v45 : Int32 := (if v40 = 1 then
      1
    else
      0);
    let σ46 : StR := (f_X3_flags σ x41 v45 0);
    (x41, σ46)
def f_X3_joined (σ : StR) (a1 : Int32) (a2 : Int32) (a3 : Int32) : Int32 × StR :=
  let x1 : Int32 := (f_X3_all σ);
  let x2 : Int32 := (a2 ^^^ x1);
  if a1 = 4 then
    (a2, σ)
  else
    if a1 = 5 then
      let x5 : Int32 := ((f_X3_sum σ a2 a3 0).1);
      let σ6 : StR := ((f_X3_sum σ a2 a3 0).2);
      (x5, σ6)
    else
      if a1 = 6 then
        let x8 : Int32 := (f_X3_flag σ 1);
        let x9 : Int32 := ((f_X3_sum σ a2 a3 x8).1);
        let σ10 : StR := ((f_X3_sum σ a2 a3 x8).2);
        (x9, σ10)
      else
        if a1 = 7 then
          let x12 : Int32 := (f_X3_flag σ 1);
          let x13 : Int32 := ((f_X3_sum σ x2 a3 x12).1);
          let σ14 : StR := ((f_X3_sum σ x2 a3 x12).2);
          (x13, σ14)
        else
          if a1 = 8 then
            let x16 : Int32 := ((f_X3_sum σ x2 a3 1).1);
            let σ17 : StR := ((f_X3_sum σ x2 a3 1).2);
            (x16, σ17)
          else
            if a1 = 9 then
              let x19 : Int32 := ((f_X3_sum σ x2 a3 1).1);
              let σ20 : StR := ((f_X3_sum σ x2 a3 1).2);
              (x19, σ20)
            else
              if a1 = 10 then
                let x22 : Int32 := ((f_X3_decimal σ a2 a3).1);
                let σ23 : StR := ((f_X3_decimal σ a2 a3).2);
                (x22, σ23)
              else
                if a1 = 11 then
                  let x25 : Int32 := (a2 &&& a3);
                  let v27 : Int32 := (if x25 = 0 then
                    0
                  else
                    1);
                  let σ28 : StR := (f_X3_flags σ x25 v27 0);
                  (x25, σ28)
                else
                  if a1 = 12 then
                    (a3 &&& x2, σ)
                  else
                    if a1 = 13 then
                      (a3 ||| a2, σ)
                    else
                      if a1 = 14 then
                        let x32 : Int32 := (a2 ^^^ a3);
                        let v34 : Int32 := (if x32 = 0 then
                          0
                        else
                          1);
                        let x35 : Int32 := (f_X3_high σ);
                        let v37 : Int32 := (if ((a2 &&& a3) &&& x35) = 0 then
                          0
                        else
                          1);
                        let σ38 : StR := (f_X3_flags σ x32 v34 v37);
                        (x32, σ38)
                      else
                        let x39 : Int32 := (a2 &&& a3);
                        let v41 : Int32 := (if x39 = 0 then
                          0
                        else
                          1);
                        let σ42 : StR := (f_X3_flags σ x39 v41 0);
                        (x39, σ42)
def f_X3_taken (σ : StR) : Int32 × StR :=
  let x1 : Int32 := (f_X3_wordAt σ (σ.2.1 (0 : Int32).toNatClampNeg));
  let σ2 : StR := (f_X3_setRegister σ 0 ((σ.2.1 (0 : Int32).toNatClampNeg) + (2 : Int32)));
  (x1, σ2)
def f_X3_indexed (σ : StR) (a1 : Int32) : StR :=
  let v2 : Int32 := (if a1 = 0 then
    σ.2.1 (0 : Int32).toNatClampNeg
  else
    if 4 ≤ a1 then
      σ.2.1 a1.toNatClampNeg
    else
      if a1 = 1 then
        σ.2.1 a1.toNatClampNeg
      else
        0);
  let x3 : Int32 := ((f_X3_taken σ).1);
  let σ4 : StR := ((f_X3_taken σ).2);
  let σ5 : StR := (f_X3_memory σ4 (v2 + x3));
  σ5
def f_X3_source (σ : StR) (a1 : Int32) (a2 : Int32) : StR :=
  let v2 : StR := (if a1 = 0 then
    let σ18 : StR := (f_X3_register σ a2);
    σ18
  else
    if a1 = 1 then
      if a2 = 3 then
        let σ16 : StR := (f_X3_number σ 1);
        σ16
      else
        let σ17 : StR := (f_X3_indexed σ a2);
        σ17
    else
      if a2 = 2 then
        let v12 : Int32 := (if a1 = 2 then
          4
        else
          8);
        let σ13 : StR := (f_X3_number σ v12);
        σ13
      else
        if a2 = 3 then
          let v9 : Int32 := (if a1 = 2 then
            2
          else
            65535);
          let σ10 : StR := (f_X3_number σ v9);
          σ10
        else
          let σ7 : StR := (f_X3_memory σ (σ.2.1 a2.toNatClampNeg));
          σ7);
  if a1 = 3 then
    if a2 = 2 then
      v2
    else
      if a2 = 3 then
        v2
      else
        let v7 : Int32 := (if v2.2.2.2.2.2.2.2.2 = 0 then
          2
        else
          if a2 ≤ 1 then
            2
          else
            1);
        let σ8 : StR := (f_X3_setRegister v2 a2 ((v2.2.1 a2.toNatClampNeg) + v7));
        σ8
  else
    v2
def f_X3_push (σ : StR) (a1 : Int32) : StR :=
  let σ1 : StR := (f_X3_setRegister σ 1 ((σ.2.1 (1 : Int32).toNatClampNeg) - (2 : Int32)));
  let σ2 : StR := (f_X3_write σ1 ((65536 : Int32) + (σ1.2.1 (1 : Int32).toNatClampNeg)) a1);
  σ2
def f_X3_popped (σ : StR) : Int32 × StR :=
  let x1 : Int32 := (f_X3_wordAt σ (σ.2.1 (1 : Int32).toNatClampNeg));
  let σ2 : StR := (f_X3_setRegister σ 1 ((σ.2.1 (1 : Int32).toNatClampNeg) + (2 : Int32)));
  (x1, σ2)
def f_X3_shifted (σ : StR) (a1 : Int32) : StR :=
  if a1 = 1 then
    let σ17 : StR := (f_X3_write σ σ.2.2.2.2.2.2.2.1 (((σ.2.2.2.2.2.2.1 <<< ((8 : Int32) &&& 31)) ||| (σ.2.2.2.2.2.2.1 >>> ((8 : Int32) &&& 31))) &&& (65535 : Int32)));
    σ17
  else
    let v3 : Int32 := (if a1 = 0 then
      let x5 : Int32 := (f_X3_flag σ 1);
      let x6 : Int32 := (f_X3_high σ);
      x5 * x6
    else
      let x4 : Int32 := (f_X3_high σ);
      σ.2.2.2.2.2.2.1 &&& x4);
    let x4 : Int32 := ((σ.2.2.2.2.2.2.1 >>> ((1 : Int32) &&& 31)) ||| v3);
    let v6 : Int32 := (if a1 = 3 then
      let x7 : Int32 := (σ.2.2.2.2.2.2.1.toInt8.toInt32 &&& (65535 : Int32));
      x7
    else
      x4);
    let v8 : Int32 := (if a1 = 3 then
      if v6 = 0 then
        0
      else
        1
    else
      if (σ.2.2.2.2.2.2.1 &&& (1 : Int32)) = 0 then
        0
      else
        1);
    let σ9 : StR := (f_X3_flags σ v6 v8 0);
    let σ10 : StR := (f_X3_write σ9 σ.2.2.2.2.2.2.2.1 v6);
    σ10
def f_X3_twoParts (σ : StR) (a1 : Int32) : StR :=
  let x1 : Int32 := ((a1 >>> ((4 : Int32) &&& 31)) &&& (3 : Int32));
  let x2 : Int32 := ((a1 >>> ((8 : Int32) &&& 31)) &&& (15 : Int32));
  let x3 : Int32 := (a1 &&& (15 : Int32));
  let v5 : Int32 := (if (a1 &&& (128 : Int32)) = 0 then
    0
  else
    1);
  let σ6 : StR := (f_X3_source σ x1 x2);
  let v8 : StR := (if v5 = 0 then
    let σ9 : StR := (f_X3_register σ6 x3);
    σ9
  else
    let σ10 : StR := (f_X3_indexed σ6 x3);
    σ10);
  let x9 : Int32 := (a1 >>> ((12 : Int32) &&& 31));
  let x10 : Int32 := ((f_X3_joined v8 x9 σ6.2.2.2.2.2.2.1 v8.2.2.2.2.2.2.1).1);
  let σ11 : StR := ((f_X3_joined v8 x9 σ6.2.2.2.2.2.2.1 v8.2.2.2.2.2.2.1).2);
  let v13 : StR := (if x9 = 9 then
    σ11
  else
    if x9 = 11 then
      σ11
    else
      let σ15 : StR := (f_X3_write σ11 σ11.2.2.2.2.2.2.2.1 x10);
      σ15);
  let v15 : Int32 := (if v5 = 0 then
    if x3 = 0 then
      13090
    else
      12833
  else
    25940);
  let x16 : Int32 := (f_X3_sort x1 x2);
  let x17 : Int32 := (f_X3_pick v15 x16);
  let σ18 : StR := (f_X3_spend v13 x17);
  σ18
def f_X3_onePart (σ : StR) (a1 : Int32) : StR :=
  let x1 : Int32 := ((a1 >>> ((7 : Int32) &&& 31)) &&& (7 : Int32));
  let x2 : Int32 := ((a1 >>> ((4 : Int32) &&& 31)) &&& (3 : Int32));
  let x3 : Int32 := (a1 &&& (15 : Int32));
  if x1 = 6 then
    let x23 : Int32 := ((f_X3_popped σ).1);
    let σ24 : StR := ((f_X3_popped σ).2);
    let σ25 : StR := (f_X3_setRegister σ24 2 x23);
    let x26 : Int32 := ((f_X3_popped σ25).1);
    let σ27 : StR := ((f_X3_popped σ25).2);
    let σ28 : StR := (f_X3_setRegister σ27 0 x26);
    let σ29 : StR := (f_X3_spend σ28 5);
    σ29
  else
    let σ5 : StR := (f_X3_source σ x2 x3);
    let x6 : Int32 := (f_X3_sort x2 x3);
    if 4 ≤ x1 then
      if x1 = 4 then
        let σ13 : StR := (f_X3_push σ5 σ5.2.2.2.2.2.2.1);
        let v15 : Int32 := (if x2 = 3 then
          if x3 = 0 then
            4
          else
            let x18 : Int32 := (f_X3_pick 21827 x6);
            x18
        else
          let x16 : Int32 := (f_X3_pick 21827 x6);
          x16);
        let σ16 : StR := (f_X3_spend σ13 v15);
        σ16
      else
        let σ9 : StR := (f_X3_push σ5 (σ5.2.1 (0 : Int32).toNatClampNeg));
        let σ10 : StR := (f_X3_setRegister σ9 0 σ5.2.2.2.2.2.2.1);
        let x11 : Int32 := (f_X3_pick 21828 x6);
        let σ12 : StR := (f_X3_spend σ10 x11);
        σ12
    else
      let σ20 : StR := (f_X3_shifted σ5 x1);
      let x21 : Int32 := (f_X3_pick 17201 x6);
      let σ22 : StR := (f_X3_spend σ20 x21);
      σ22
def f_X3_jumps (σ : StR) (a1 : Int32) : Int32 :=
  if a1 = 0 then
    let x2 : Int32 := (f_X3_flag σ 2);
    if x2 = 0 then
      1
    else
      0
  else
    if a1 = 1 then
      let x5 : Int32 := (f_X3_flag σ 2);
      if x5 = 1 then
        1
      else
        0
    else
      if a1 = 2 then
        let x8 : Int32 := (f_X3_flag σ 1);
        if x8 = 0 then
          1
        else
          0
      else
        if a1 = 3 then
          let x11 : Int32 := (f_X3_flag σ 1);
          if x11 = 1 then
            1
          else
            0
        else
          if a1 = 4 then
            let x14 : Int32 := (f_X3_flag σ 4);
            if x14 = 1 then
              1
            else
              0
          else
            if a1 = 5 then
              let x17 : Int32 := (f_X3_flag σ 4);
              let x18 : Int32 := (f_X3_flag σ 256);
              if x17 = x18 then
                1
              else
                0
            else
              if a1 = 6 then
                let x21 : Int32 := (f_X3_flag σ 4);
                let x22 : Int32 := (f_X3_flag σ 256);
                if x21 = x22 then
                  0
                else
                  1
              else
                1
def f_X3_jump (σ : StR) (a1 : Int32) : StR :=
  let x1 : Int32 := ((a1 &&& (1023 : Int32)) - ((2 : Int32) * (a1 &&& (512 : Int32))));
  let x2 : Int32 := (f_X3_jumps σ ((a1 >>> ((10 : Int32) &&& 31)) &&& (7 : Int32)));
  let v4 : StR := (if x2 = 0 then
    σ
  else
    let σ5 : StR := (f_X3_setRegister σ 0 ((σ.2.1 (0 : Int32).toNatClampNeg) + ((2 : Int32) * x1)));
    σ5);
  let σ5 : StR := (f_X3_spend v4 2);
  σ5
def f_X3_interrupt (σ : StR) : StR :=
  let v2 : Int32 := (if ((σ.2.2.2.2.1 >>> ((13 : Int32) &&& 31)) &&& (1 : Int32)) = 0 then
    if ((σ.2.2.2.2.1 >>> ((12 : Int32) &&& 31)) &&& (1 : Int32)) = 0 then
      if ((σ.2.2.2.2.1 >>> ((11 : Int32) &&& 31)) &&& (1 : Int32)) = 0 then
        if ((σ.2.2.2.2.1 >>> ((10 : Int32) &&& 31)) &&& (1 : Int32)) = 0 then
          if ((σ.2.2.2.2.1 >>> ((9 : Int32) &&& 31)) &&& (1 : Int32)) = 0 then
            if ((σ.2.2.2.2.1 >>> ((8 : Int32) &&& 31)) &&& (1 : Int32)) = 0 then
              if ((σ.2.2.2.2.1 >>> ((7 : Int32) &&& 31)) &&& (1 : Int32)) = 0 then
                if ((σ.2.2.2.2.1 >>> ((6 : Int32) &&& 31)) &&& (1 : Int32)) = 0 then
                  if ((σ.2.2.2.2.1 >>> ((5 : Int32) &&& 31)) &&& (1 : Int32)) = 0 then
                    if ((σ.2.2.2.2.1 >>> ((4 : Int32) &&& 31)) &&& (1 : Int32)) = 0 then
                      if ((σ.2.2.2.2.1 >>> ((3 : Int32) &&& 31)) &&& (1 : Int32)) = 0 then
                        if ((σ.2.2.2.2.1 >>> ((2 : Int32) &&& 31)) &&& (1 : Int32)) = 0 then
                          if ((σ.2.2.2.2.1 >>> ((1 : Int32) &&& 31)) &&& (1 : Int32)) = 0 then
                            0
                          else
                            1
                        else
                          2
                      else
                        3
                    else
                      4
                  else
                    5
                else
                  6
              else
                7
            else
              8
          else
            9
        else
          10
      else
        11
    else
      12
  else
    13);
  let σ3 : StR := (f_X3_push (σ.1, σ.2.1, σ.2.2.1, σ.2.2.2.1, σ.2.2.2.2.1, σ.2.2.2.2.2.1, σ.2.2.2.2.2.2.1, σ.2.2.2.2.2.2.2.1, 0) (σ.2.1 (0 : Int32).toNatClampNeg));
  let σ4 : StR := (f_X3_push σ3 (σ3.2.1 (2 : Int32).toNatClampNeg));
  let x5 : Int32 := (σ4.2.2.2.2.1 ^^^ ((1 : Int32) <<< (v2 &&& 31)));
  let x6 : Int32 := ((σ4.2.1 (2 : Int32).toNatClampNeg) &&& (64 : Int32));
  let x7 : Int32 := (f_X3_wordAt (σ4.1, upd σ4.2.1 ((2 : Int32).toNatClampNeg) x6, σ4.2.2.1, σ4.2.2.2.1, x5, σ4.2.2.2.2.2.1, σ4.2.2.2.2.2.2.1, σ4.2.2.2.2.2.2.2.1, σ4.2.2.2.2.2.2.2.2) ((65504 : Int32) + ((2 : Int32) * v2)));
  let σ8 : StR := (f_X3_setRegister (σ4.1, upd σ4.2.1 ((2 : Int32).toNatClampNeg) x6, σ4.2.2.1, σ4.2.2.2.1, x5, σ4.2.2.2.2.2.1, σ4.2.2.2.2.2.2.1, σ4.2.2.2.2.2.2.2.1, σ4.2.2.2.2.2.2.2.2) 0 x7);
  let σ9 : StR := (f_X3_spend σ8 6);
  σ9
def f_X3_step (σ : StR) : Int32 × StR :=
  let x1 : Int32 := (f_X3_flag σ 8);
  if x1 = 1 then
    if σ.2.2.2.2.1 = 0 then
      let x22 : Int32 := (f_X3_flag σ 16);
      if x22 = 1 then
        (1, σ)
      else
        let x24 : Int32 := (f_X3_wordAt σ (σ.2.1 (0 : Int32).toNatClampNeg));
        let x25 : Int32 := (f_X3_isAssigned x24);
        if x25 = 0 then
          (2, σ)
        else
          let x27 : Int32 := ((f_X3_taken σ).1);
          let σ28 : StR := ((f_X3_taken σ).2);
          let v30 : Int32 := (if 16384 ≤ x24 then
            if (x24 &&& (64 : Int32)) = 0 then
              0
            else
              1
          else
            if 8192 ≤ x24 then
              0
            else
              if (x24 &&& (64 : Int32)) = 0 then
                0
              else
                1);
          let v32 : StR := (if x24 < 16384 then
            if x24 < 8192 then
              let σ34 : StR := (f_X3_onePart (σ28.1, σ28.2.1, σ28.2.2.1, σ28.2.2.2.1, σ28.2.2.2.2.1, σ28.2.2.2.2.2.1, σ28.2.2.2.2.2.2.1, σ28.2.2.2.2.2.2.2.1, v30) x24);
              σ34
            else
              let σ35 : StR := (f_X3_jump (σ28.1, σ28.2.1, σ28.2.2.1, σ28.2.2.2.1, σ28.2.2.2.2.1, σ28.2.2.2.2.2.1, σ28.2.2.2.2.2.2.1, σ28.2.2.2.2.2.2.2.1, v30) x24);
              σ35
          else
            let σ36 : StR := (f_X3_twoParts (σ28.1, σ28.2.1, σ28.2.2.1, σ28.2.2.2.1, σ28.2.2.2.2.1, σ28.2.2.2.2.2.1, σ28.2.2.2.2.2.2.1, σ28.2.2.2.2.2.2.2.1, v30) x24);
            σ36);
          (0, v32)
    else
      let σ40 : StR := (f_X3_interrupt σ);
      (0, σ40)
  else
    let x3 : Int32 := (f_X3_flag σ 16);
    if x3 = 1 then
      (1, σ)
    else
      let x5 : Int32 := (f_X3_wordAt σ (σ.2.1 (0 : Int32).toNatClampNeg));
      let x6 : Int32 := (f_X3_isAssigned x5);
      if x6 = 0 then
        (2, σ)
      else
        let x8 : Int32 := ((f_X3_taken σ).1);
        let σ9 : StR := ((f_X3_taken σ).2);
        let v11 : Int32 := (if 16384 ≤ x5 then
          if (x5 &&& (64 : Int32)) = 0 then
            0
          else
            1
        else
          if 8192 ≤ x5 then
            0
          else
            if (x5 &&& (64 : Int32)) = 0 then
              0
            else
              1);
        let v13 : StR := (if x5 < 16384 then
          if x5 < 8192 then
            let σ15 : StR := (f_X3_onePart (σ9.1, σ9.2.1, σ9.2.2.1, σ9.2.2.2.1, σ9.2.2.2.2.1, σ9.2.2.2.2.2.1, σ9.2.2.2.2.2.2.1, σ9.2.2.2.2.2.2.2.1, v11) x5);
            σ15
          else
            let σ16 : StR := (f_X3_jump (σ9.1, σ9.2.1, σ9.2.2.1, σ9.2.2.2.1, σ9.2.2.2.2.1, σ9.2.2.2.2.2.1, σ9.2.2.2.2.2.2.1, σ9.2.2.2.2.2.2.2.1, v11) x5);
            σ16
        else
          let σ17 : StR := (f_X3_twoParts (σ9.1, σ9.2.1, σ9.2.2.1, σ9.2.2.2.1, σ9.2.2.2.2.1, σ9.2.2.2.2.2.1, σ9.2.2.2.2.2.2.1, σ9.2.2.2.2.2.2.2.1, v11) x5);
          σ17);
        (0, v13)
def f_X3_poke (σ : StR) (a1 : Int32) (a2 : Int32) : Int32 × StR :=
  let x1 : Int32 := (f_X3_isAddress a1);
  if x1 = 0 then
    (0, σ)
  else
    if a2 < 0 then
      (0, σ)
    else
      if a2 ≤ 255 then
        let x5 : Int32 := (f_X3_isMultiplier a1);
        let v7 : StR := (if x5 = 0 then
          let x8 : Int32 := (f_X3_withByte ((σ.1 (a1 >>> ((1 : Int32) &&& 31)).toNatClampNeg) &&& (65535 : Int32)) a1 a2);
          (upd σ.1 ((a1 >>> ((1 : Int32) &&& 31)).toNatClampNeg) (vp_nar .short x8.toInt16.toInt32), σ.2.1, σ.2.2.1, σ.2.2.2.1, σ.2.2.2.2.1, σ.2.2.2.2.2.1, σ.2.2.2.2.2.2.1, σ.2.2.2.2.2.2.2.1, σ.2.2.2.2.2.2.2.2)
        else
          let x9 : Int32 := (f_X3_which a1);
          let x10 : Int32 := (f_X3_which a1);
          let x11 : Int32 := (f_X3_withByte (σ.2.2.1 x10.toNatClampNeg) a1 a2);
          (σ.1, σ.2.1, upd σ.2.2.1 x9.toNatClampNeg x11, σ.2.2.2.1, σ.2.2.2.2.1, σ.2.2.2.2.2.1, σ.2.2.2.2.2.2.1, σ.2.2.2.2.2.2.2.1, σ.2.2.2.2.2.2.2.2));
        (1, v7)
      else
        (0, σ)
def f_X3_peek (σ : StR) (a1 : Int32) : Int32 :=
  let x1 : Int32 := (f_X3_isAddress a1);
  if x1 = 0 then
    (-1)
  else
    let x3 : Int32 := (f_X3_byteAt σ a1);
    x3
def f_X3_reg (σ : StR) (a1 : Int32) : Int32 :=
  if a1 < 0 then
    (-1)
  else
    if 16 ≤ a1 then
      (-1)
    else
      σ.2.1 a1.toNatClampNeg
def f_X3_raise (σ : StR) (a1 : Int32) : Int32 × StR :=
  if a1 < 0 then
    (0, σ)
  else
    if a1 ≤ 13 then
      let x3 : Int32 := (σ.2.2.2.2.1 ||| ((1 : Int32) <<< (a1 &&& 31)));
      (1, (σ.1, σ.2.1, σ.2.2.1, σ.2.2.2.1, x3, σ.2.2.2.2.2.1, σ.2.2.2.2.2.2.1, σ.2.2.2.2.2.2.2.1, σ.2.2.2.2.2.2.2.2))
    else
      (0, σ)
def f_X3_cyclesOf (σ : StR) : Int32 :=
  σ.2.2.2.2.2.1
def f_X3_pending (σ : StR) : Int32 :=
  σ.2.2.2.2.1
def f_X3_mode (σ : StR) : Int32 :=
  σ.2.2.2.1
def f_X3_init_ (σ : StR) : StR :=
  let x24 : Int32 := (f_X3_wordAt (σ.1, upd (upd (upd (upd (upd (upd (upd (upd (upd (upd (upd (upd (upd (upd (upd (upd σ.2.1 ((0 : Int32).toNatClampNeg) 0) ((1 : Int32).toNatClampNeg) 0) ((2 : Int32).toNatClampNeg) 0) ((3 : Int32).toNatClampNeg) 0) ((4 : Int32).toNatClampNeg) 0) ((5 : Int32).toNatClampNeg) 0) ((6 : Int32).toNatClampNeg) 0) ((7 : Int32).toNatClampNeg) 0) ((8 : Int32).toNatClampNeg) 0) ((9 : Int32).toNatClampNeg) 0) ((10 : Int32).toNatClampNeg) 0) ((11 : Int32).toNatClampNeg) 0) ((12 : Int32).toNatClampNeg) 0) ((13 : Int32).toNatClampNeg) 0) ((14 : Int32).toNatClampNeg) 0) ((15 : Int32).toNatClampNeg) 0, upd (upd (upd (upd (upd σ.2.2.1 ((0 : Int32).toNatClampNeg) 0) ((1 : Int32).toNatClampNeg) 0) ((2 : Int32).toNatClampNeg) 0) ((3 : Int32).toNatClampNeg) 0) ((4 : Int32).toNatClampNeg) 0, 0, 0, 0, σ.2.2.2.2.2.2.1, σ.2.2.2.2.2.2.2.1, σ.2.2.2.2.2.2.2.2) 65534);
  let σ25 : StR := (f_X3_setRegister (σ.1, upd (upd (upd (upd (upd (upd (upd (upd (upd (upd (upd (upd (upd (upd (upd (upd σ.2.1 ((0 : Int32).toNatClampNeg) 0) ((1 : Int32).toNatClampNeg) 0) ((2 : Int32).toNatClampNeg) 0) ((3 : Int32).toNatClampNeg) 0) ((4 : Int32).toNatClampNeg) 0) ((5 : Int32).toNatClampNeg) 0) ((6 : Int32).toNatClampNeg) 0) ((7 : Int32).toNatClampNeg) 0) ((8 : Int32).toNatClampNeg) 0) ((9 : Int32).toNatClampNeg) 0) ((10 : Int32).toNatClampNeg) 0) ((11 : Int32).toNatClampNeg) 0) ((12 : Int32).toNatClampNeg) 0) ((13 : Int32).toNatClampNeg) 0) ((14 : Int32).toNatClampNeg) 0) ((15 : Int32).toNatClampNeg) 0, upd (upd (upd (upd (upd σ.2.2.1 ((0 : Int32).toNatClampNeg) 0) ((1 : Int32).toNatClampNeg) 0) ((2 : Int32).toNatClampNeg) 0) ((3 : Int32).toNatClampNeg) 0) ((4 : Int32).toNatClampNeg) 0, 0, 0, 0, σ.2.2.2.2.2.2.1, σ.2.2.2.2.2.2.2.1, σ.2.2.2.2.2.2.2.2) 0 x24);
  σ25
def f_X2_loop : Nat → StC → Int32 → Int32 × StC
  | 0, σ, told => (told, σ)
  | q + 1, σ, told => if told = 0 then f_X2_loop q (f_X2_step σ).2 (f_X2_step σ).1 else (told, σ)
def f_X2_run (σ : StC) (a1 : Int32) : Int32 × StC := if a1 < 0 then ((-1), σ) else if a1 ≤ 2000 then f_X2_loop a1.toNatClampNeg σ 0 else ((-1), σ)
def f_X3_loop : Nat → StR → Int32 → Int32 × StR
  | 0, σ, told => (told, σ)
  | q + 1, σ, told => if told = 2 then (told, σ) else f_X3_loop q (f_X3_step σ).2 (f_X3_step σ).1
def f_X3_run (σ : StR) (a1 : Int32) : Int32 × StR := if a1 < 0 then ((-1), σ) else if a1 ≤ 2000 then f_X3_loop a1.toNatClampNeg σ 0 else ((-1), σ)
