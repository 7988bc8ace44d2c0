/-- what a hart holds -/
abbrev HS : Type := (Nat → Int32) × (Nat → Int32) × (Nat → Int32) × Int32 × Int32 × Int32 × Int32 × Int32 × Int64 × Int64
def hs_regs (z : HS) : Nat → Int32 := z.1
def hs_words (z : HS) : Nat → Int32 := z.2.1
def hs_rights (z : HS) : Nat → Int32 := z.2.2.1
def hs_reserved (z : HS) : Int32 := z.2.2.2.1
def hs_place (z : HS) : Int32 := z.2.2.2.2.1
def hs_behind (z : HS) : Int32 := z.2.2.2.2.2.1
def hs_cause (z : HS) : Int32 := z.2.2.2.2.2.2.1
def hs_value (z : HS) : Int32 := z.2.2.2.2.2.2.2.1
def hs_retired (z : HS) : Int64 := z.2.2.2.2.2.2.2.2.1
def hs_time (z : HS) : Int64 := z.2.2.2.2.2.2.2.2.2
def hs_set_reserved (z : HS) (v : Int32) : HS := (z.1, z.2.1, z.2.2.1, v, z.2.2.2.2.1, z.2.2.2.2.2.1, z.2.2.2.2.2.2.1, z.2.2.2.2.2.2.2.1, z.2.2.2.2.2.2.2.2.1, z.2.2.2.2.2.2.2.2.2)
def hs_set_place (z : HS) (v : Int32) : HS := (z.1, z.2.1, z.2.2.1, z.2.2.2.1, v, z.2.2.2.2.2.1, z.2.2.2.2.2.2.1, z.2.2.2.2.2.2.2.1, z.2.2.2.2.2.2.2.2.1, z.2.2.2.2.2.2.2.2.2)
def hs_set_behind (z : HS) (v : Int32) : HS := (z.1, z.2.1, z.2.2.1, z.2.2.2.1, z.2.2.2.2.1, v, z.2.2.2.2.2.2.1, z.2.2.2.2.2.2.2.1, z.2.2.2.2.2.2.2.2.1, z.2.2.2.2.2.2.2.2.2)
def hs_set_cause (z : HS) (v : Int32) : HS := (z.1, z.2.1, z.2.2.1, z.2.2.2.1, z.2.2.2.2.1, z.2.2.2.2.2.1, v, z.2.2.2.2.2.2.2.1, z.2.2.2.2.2.2.2.2.1, z.2.2.2.2.2.2.2.2.2)
def hs_set_value (z : HS) (v : Int32) : HS := (z.1, z.2.1, z.2.2.1, z.2.2.2.1, z.2.2.2.2.1, z.2.2.2.2.2.1, z.2.2.2.2.2.2.1, v, z.2.2.2.2.2.2.2.2.1, z.2.2.2.2.2.2.2.2.2)
def hs_set_retired (z : HS) (v : Int64) : HS := (z.1, z.2.1, z.2.2.1, z.2.2.2.1, z.2.2.2.2.1, z.2.2.2.2.2.1, z.2.2.2.2.2.2.1, z.2.2.2.2.2.2.2.1, v, z.2.2.2.2.2.2.2.2.2)
def hs_set_time (z : HS) (v : Int64) : HS := (z.1, z.2.1, z.2.2.1, z.2.2.2.1, z.2.2.2.2.1, z.2.2.2.2.2.1, z.2.2.2.2.2.2.1, z.2.2.2.2.2.2.2.1, z.2.2.2.2.2.2.2.2.1, v)
def hs_set_reg (z : HS) (i v : Int32) : HS := ((upd z.1 i.toNatClampNeg v), z.2.1, z.2.2.1, z.2.2.2.1, z.2.2.2.2.1, z.2.2.2.2.2.1, z.2.2.2.2.2.2.1, z.2.2.2.2.2.2.2.1, z.2.2.2.2.2.2.2.2.1, z.2.2.2.2.2.2.2.2.2)
def hs_set_word (z : HS) (i v : Int32) : HS := (z.1, (upd z.2.1 i.toNatClampNeg v), z.2.2.1, z.2.2.2.1, z.2.2.2.2.1, z.2.2.2.2.2.1, z.2.2.2.2.2.2.1, z.2.2.2.2.2.2.2.1, z.2.2.2.2.2.2.2.2.1, z.2.2.2.2.2.2.2.2.2)
def hs_set_right (z : HS) (i v : Int32) : HS := (z.1, z.2.1, (upd z.2.2.1 i.toNatClampNeg v), z.2.2.2.1, z.2.2.2.2.1, z.2.2.2.2.2.1, z.2.2.2.2.2.2.1, z.2.2.2.2.2.2.2.1, z.2.2.2.2.2.2.2.2.1, z.2.2.2.2.2.2.2.2.2)
abbrev hs_W (cR cW cP : ClassId) (h0 h1 h2 h3 h4 : Nat) (z : HS) : va_W := [(h0, .inr (0, [.ref h1, .ref h2, .int (hs_place z), .int (hs_behind z), .int (hs_cause z), .int (hs_value z), .long (hs_retired z), .long (hs_time z)])), (h1, .inr (1, [.ref h3, .ref h4, .int (hs_reserved z)])), (h2, .inl (cR, 32, .inl (hs_regs z))), (h3, .inl (cW, 16384, .inl (hs_words z))), (h4, .inl (cP, 64, .inl (hs_rights z)))]
def hf_Memory_holds (a1 : Int32) : Int32 :=
  if a1 < 0 then
    0
  else
    if 65535 < a1 then
      0
    else
      1
def hf_Memory_wordIndex (a1 : Int32) : Int32 :=
  (ja_ushr (a1 &&& 65535) 2)
def hf_Memory_maskOf (a1 : Int32) : Int32 :=
  if a1 = 0 then
    255
  else
    if a1 = 1 then
      65535
    else
      (-1)
def hf_Memory_shiftOf (a1 : Int32) : Int32 :=
  ((a1 &&& 3) <<< (3 &&& 31))
def hf_Memory_write (st : HS) (a1 : Int32) (a2 : Int32) (a3 : Int32) : HS :=
  if (hs_reserved st) = (a2 &&& (-4)) then
    (hs_set_reserved (hs_set_word st (hf_Memory_wordIndex a2) (((hs_words st ((hf_Memory_wordIndex a2)).toNatClampNeg) &&& (((hf_Memory_maskOf a1) <<< ((hf_Memory_shiftOf a2) &&& 31)) ^^^ (-1))) ||| ((a3 <<< ((hf_Memory_shiftOf a2) &&& 31)) &&& ((hf_Memory_maskOf a1) <<< ((hf_Memory_shiftOf a2) &&& 31))))) (-1))
  else
    (hs_set_word st (hf_Memory_wordIndex a2) (((hs_words st ((hf_Memory_wordIndex a2)).toNatClampNeg) &&& (((hf_Memory_maskOf a1) <<< ((hf_Memory_shiftOf a2) &&& 31)) ^^^ (-1))) ||| ((a3 <<< ((hf_Memory_shiftOf a2) &&& 31)) &&& ((hf_Memory_maskOf a1) <<< ((hf_Memory_shiftOf a2) &&& 31)))))
def hf_Memory_isMisaligned (a1 : Int32) (a2 : Int32) : Int32 :=
  if (a2 &&& (((1 : Int32) <<< ((a1 &&& 3) &&& 31)) - 1)) = 0 then
    0
  else
    1
def hf_Memory_read (st : HS) (a1 : Int32) (a2 : Int32) : Int32 :=
  if a1 = 0 then
    (ja_ushr (hs_words st ((hf_Memory_wordIndex a2)).toNatClampNeg) (hf_Memory_shiftOf a2)).toInt8.toInt32
  else
    if a1 = 1 then
      (ja_ushr (hs_words st ((hf_Memory_wordIndex a2)).toNatClampNeg) (hf_Memory_shiftOf a2)).toInt16.toInt32
    else
      if a1 = 4 then
        ((ja_ushr (hs_words st ((hf_Memory_wordIndex a2)).toNatClampNeg) (hf_Memory_shiftOf a2)) &&& 255)
      else
        if a1 = 5 then
          ((ja_ushr (hs_words st ((hf_Memory_wordIndex a2)).toNatClampNeg) (hf_Memory_shiftOf a2)) &&& 65535)
        else
          (hs_words st ((hf_Memory_wordIndex a2)).toNatClampNeg)
def hf_Memory_exchangeRights (st : HS) (a1 : Int32) (a2 : Int32) : Int32 × HS :=
  ((hs_rights st (a1).toNatClampNeg), (hs_set_right st a1 a2))
def hf_RiscHart_give (st : HS) (a1 : Int32) (a2 : Int32) : Int32 × HS :=
  if a1 = 0 then
    (0, st)
  else
    (0, (hs_set_reg st a1 a2))
def hf_RiscHart_jump (st : HS) (a1 : Int32) : HS :=
  (hs_set_place st a1)
def hf_RiscHart_clock (st : HS) (a1 : Int64) : HS :=
  (hs_set_time st a1)
def hf_Memory_allows (st : HS) (a1 : Int32) (a2 : Int32) : Int32 :=
  if (hf_Memory_holds a2) = 0 then
    0
  else
    if ((hs_rights st ((ja_ushr a2 10)).toNatClampNeg) &&& a1) = 0 then
      0
    else
      1
def hf_Memory_mayCarryOut (st : HS) (a1 : Int32) : Int32 :=
  if (hf_Memory_isMisaligned 1 a1) = 0 then
    if (hf_Memory_allows st 4 a1) = 0 then
      0
    else
      1
  else
    0
def hf_RiscHart_trap (st : HS) (a1 : Int32) (a2 : Int32) : Int32 × HS :=
  (a1, (hs_set_value (hs_set_cause st a1) a2))
def hf_RiscHart_longFrom (st : HS) (a1 : Int32) : Int32 :=
  (((hf_Memory_read st 5 ((hs_place st) + 2)) <<< (16 &&& 31)) ||| a1)
def hf_Bits_part (a1 : Int32) (a2 : Int32) (a3 : Int32) : Int32 :=
  ((ja_ushr a1 a2) &&& (((1 : Int32) <<< (a3 &&& 31)) - 1))
def hf_LongForm_d (a1 : Int32) : Int32 :=
  (hf_Bits_part a1 7 5)
def hf_LongForm_upperNumber (a1 : Int32) : Int32 :=
  (a1 &&& (-4096))
def hf_Bits_signed (a1 : Int32) (a2 : Int32) : Int32 :=
  ((a1 <<< ((32 - a2) &&& 31)) >>> ((32 - a2) &&& 31))
def hf_LongForm_offsetJ (a1 : Int32) : Int32 :=
  (hf_Bits_signed (((((hf_Bits_part a1 31 1) <<< (20 &&& 31)) ||| ((hf_Bits_part a1 12 8) <<< (12 &&& 31))) ||| ((hf_Bits_part a1 20 1) <<< (11 &&& 31))) ||| ((hf_Bits_part a1 21 10) <<< (1 &&& 31))) 21)
def hf_RiscHart_linkAndJump (st : HS) (a1 : Int32) (a2 : Int32) : Int32 × HS :=
  (hf_RiscHart_give (hs_set_behind st (a2 &&& (-2))) a1 (hs_behind st))
def hf_LongForm_f (a1 : Int32) : Int32 :=
  (hf_Bits_part a1 12 3)
def hf_LongForm_a (a1 : Int32) : Int32 :=
  (hf_Bits_part a1 15 5)
def hf_LongForm_numberI (a1 : Int32) : Int32 :=
  (a1 >>> (20 &&& 31))
def hf_RiscHart_longJumpToRegister (st : HS) (a1 : Int32) : Int32 × HS :=
  if (hf_LongForm_f a1) = 0 then
    (hf_RiscHart_linkAndJump st (hf_LongForm_d a1) ((hs_regs st ((hf_LongForm_a a1)).toNatClampNeg) + (hf_LongForm_numberI a1)))
  else
    (hf_RiscHart_trap st 2 a1)
def hf_LongForm_b (a1 : Int32) : Int32 :=
  (hf_Bits_part a1 20 5)
def hf_LongForm_offsetT (a1 : Int32) : Int32 :=
  (hf_Bits_signed (((((hf_Bits_part a1 31 1) <<< (12 &&& 31)) ||| ((hf_Bits_part a1 7 1) <<< (11 &&& 31))) ||| ((hf_Bits_part a1 25 6) <<< (5 &&& 31))) ||| ((hf_Bits_part a1 8 4) <<< (1 &&& 31))) 13)
def hf_RiscHart_jumpIf (st : HS) (a1 : Int32) (a2 : Int32) : Int32 × HS :=
  if a1 = 0 then
    (0, st)
  else
    (hf_RiscHart_linkAndJump st 0 a2)
def hf_Arithmetic_isBelow (a1 : Int32) (a2 : Int32) : Int32 :=
  if 0 ≤ (lg_cmp (a1.toInt64 &&& 4294967295) (a2.toInt64 &&& 4294967295)) then
    0
  else
    1
def hf_RiscHart_longBranch (st : HS) (a1 : Int32) : Int32 × HS :=
  if (hf_LongForm_f a1) = 0 then
    if (hs_regs st ((hf_LongForm_a a1)).toNatClampNeg) = (hs_regs st ((hf_LongForm_b a1)).toNatClampNeg) then
      (hf_RiscHart_jumpIf st 1 ((hs_place st) + (hf_LongForm_offsetT a1)))
    else
      (hf_RiscHart_jumpIf st 0 ((hs_place st) + (hf_LongForm_offsetT a1)))
  else
    if (hf_LongForm_f a1) = 1 then
      if (hs_regs st ((hf_LongForm_a a1)).toNatClampNeg) = (hs_regs st ((hf_LongForm_b a1)).toNatClampNeg) then
        (hf_RiscHart_jumpIf st 0 ((hs_place st) + (hf_LongForm_offsetT a1)))
      else
        (hf_RiscHart_jumpIf st 1 ((hs_place st) + (hf_LongForm_offsetT a1)))
    else
      if (hf_LongForm_f a1) = 4 then
        if (hs_regs st ((hf_LongForm_b a1)).toNatClampNeg) ≤ (hs_regs st ((hf_LongForm_a a1)).toNatClampNeg) then
          (hf_RiscHart_jumpIf st 0 ((hs_place st) + (hf_LongForm_offsetT a1)))
        else
          (hf_RiscHart_jumpIf st 1 ((hs_place st) + (hf_LongForm_offsetT a1)))
      else
        if (hf_LongForm_f a1) = 5 then
          if (hs_regs st ((hf_LongForm_a a1)).toNatClampNeg) < (hs_regs st ((hf_LongForm_b a1)).toNatClampNeg) then
            (hf_RiscHart_jumpIf st 0 ((hs_place st) + (hf_LongForm_offsetT a1)))
          else
            (hf_RiscHart_jumpIf st 1 ((hs_place st) + (hf_LongForm_offsetT a1)))
        else
          if (hf_LongForm_f a1) = 6 then
            (hf_RiscHart_jumpIf st (hf_Arithmetic_isBelow (hs_regs st ((hf_LongForm_a a1)).toNatClampNeg) (hs_regs st ((hf_LongForm_b a1)).toNatClampNeg)) ((hs_place st) + (hf_LongForm_offsetT a1)))
          else
            if (hf_LongForm_f a1) = 7 then
              if (hf_Arithmetic_isBelow (hs_regs st ((hf_LongForm_a a1)).toNatClampNeg) (hs_regs st ((hf_LongForm_b a1)).toNatClampNeg)) = 0 then
                (hf_RiscHart_jumpIf st 1 ((hs_place st) + (hf_LongForm_offsetT a1)))
              else
                (hf_RiscHart_jumpIf st 0 ((hs_place st) + (hf_LongForm_offsetT a1)))
            else
              (hf_RiscHart_trap st 2 a1)
def hf_RiscHart_load (st : HS) (a1 : Int32) (a2 : Int32) (a3 : Int32) : Int32 × HS :=
  if (hf_Memory_isMisaligned a1 a3) = 0 then
    if (hf_Memory_allows st 1 a3) = 0 then
      (hf_RiscHart_trap st 6 a3)
    else
      (hf_RiscHart_give st a2 (hf_Memory_read st a1 a3))
  else
    (hf_RiscHart_trap st 5 a3)
def hf_RiscHart_longLoad (st : HS) (a1 : Int32) : Int32 × HS :=
  if (hf_LongForm_f a1) = 3 then
    (hf_RiscHart_trap st 2 a1)
  else
    if (hf_LongForm_f a1) ≤ 5 then
      (hf_RiscHart_load st (hf_LongForm_f a1) (hf_LongForm_d a1) ((hs_regs st ((hf_LongForm_a a1)).toNatClampNeg) + (hf_LongForm_numberI a1)))
    else
      (hf_RiscHart_trap st 2 a1)
def hf_LongForm_g (a1 : Int32) : Int32 :=
  (hf_Bits_part a1 25 7)
def hf_LongForm_numberS (a1 : Int32) : Int32 :=
  (hf_Bits_signed (((hf_LongForm_g a1) <<< (5 &&& 31)) ||| (hf_LongForm_d a1)) 12)
def hf_RiscHart_store (st : HS) (a1 : Int32) (a2 : Int32) (a3 : Int32) : Int32 × HS :=
  if (hf_Memory_isMisaligned a1 a2) = 0 then
    if (hf_Memory_allows st 2 a2) = 0 then
      (hf_RiscHart_trap st 7 a2)
    else
      (0, (hf_Memory_write st a1 a2 a3))
  else
    (hf_RiscHart_trap st 5 a2)
def hf_RiscHart_longStore (st : HS) (a1 : Int32) : Int32 × HS :=
  if (hf_LongForm_f a1) ≤ 2 then
    (hf_RiscHart_store st (hf_LongForm_f a1) ((hs_regs st ((hf_LongForm_a a1)).toNatClampNeg) + (hf_LongForm_numberS a1)) (hs_regs st ((hf_LongForm_b a1)).toNatClampNeg))
  else
    (hf_RiscHart_trap st 2 a1)
def hf_Arithmetic_plain (a1 : Int32) (a2 : Int32) (a3 : Int32) : Int32 :=
  if a1 = 0 then
    (a2 + a3)
  else
    if a1 = 1 then
      (a2 <<< ((a3 &&& 31) &&& 31))
    else
      if a1 = 2 then
        if a3 ≤ a2 then
          0
        else
          1
      else
        if a1 = 3 then
          if (hf_Arithmetic_isBelow a2 a3) = 0 then
            0
          else
            1
        else
          if a1 = 4 then
            (a2 ^^^ a3)
          else
            if a1 = 5 then
              (ja_ushr a2 (a3 &&& 31))
            else
              if a1 = 6 then
                (a2 ||| a3)
              else
                (a2 &&& a3)
def hf_RiscHart_longWithNumber (st : HS) (a1 : Int32) : Int32 × HS :=
  if (hf_LongForm_f a1) = 5 then
    if (hf_LongForm_g a1) = 32 then
      (hf_RiscHart_give st (hf_LongForm_d a1) ((hs_regs st ((hf_LongForm_a a1)).toNatClampNeg) >>> ((hf_LongForm_b a1) &&& 31)))
    else
      if (hf_LongForm_g a1) = 0 then
        (hf_RiscHart_give st (hf_LongForm_d a1) (hf_Arithmetic_plain (hf_LongForm_f a1) (hs_regs st ((hf_LongForm_a a1)).toNatClampNeg) (hf_LongForm_numberI a1)))
      else
        (hf_RiscHart_trap st 2 a1)
  else
    if (hf_LongForm_f a1) = 1 then
      if (hf_LongForm_g a1) = 0 then
        (hf_RiscHart_give st (hf_LongForm_d a1) (hf_Arithmetic_plain (hf_LongForm_f a1) (hs_regs st ((hf_LongForm_a a1)).toNatClampNeg) (hf_LongForm_numberI a1)))
      else
        (hf_RiscHart_trap st 2 a1)
    else
      (hf_RiscHart_give st (hf_LongForm_d a1) (hf_Arithmetic_plain (hf_LongForm_f a1) (hs_regs st ((hf_LongForm_a a1)).toNatClampNeg) (hf_LongForm_numberI a1)))
def hf_Arithmetic_quotient (a1 : Int64) (a2 : Int64) : Int64 :=
  if (lg_cmp a2 0) = 0 then
    (-1)
  else
    (a1 / a2)
def hf_Arithmetic_remainder (a1 : Int64) (a2 : Int64) : Int64 :=
  if (lg_cmp a2 0) = 0 then
    a1
  else
    (a1 - a1 / a2 * a2)
def hf_Arithmetic_multipliedOrDivided (a1 : Int32) (a2 : Int32) (a3 : Int32) : Int32 :=
  if a1 = 0 then
    (a2 * a3)
  else
    if a1 = 1 then
      (ja_lushr (a2.toInt64 * a3.toInt64) 32).toInt32
    else
      if a1 = 2 then
        (ja_lushr (a2.toInt64 * (a3.toInt64 &&& 4294967295)) 32).toInt32
      else
        if a1 = 3 then
          (ja_lushr ((a2.toInt64 &&& 4294967295) * (a3.toInt64 &&& 4294967295)) 32).toInt32
        else
          if a1 = 4 then
            (hf_Arithmetic_quotient a2.toInt64 a3.toInt64).toInt32
          else
            if a1 = 5 then
              (hf_Arithmetic_quotient (a2.toInt64 &&& 4294967295) (a3.toInt64 &&& 4294967295)).toInt32
            else
              if a1 = 6 then
                (hf_Arithmetic_remainder a2.toInt64 a3.toInt64).toInt32
              else
                (hf_Arithmetic_remainder (a2.toInt64 &&& 4294967295) (a3.toInt64 &&& 4294967295)).toInt32
def hf_RiscHart_longWithRegisters (st : HS) (a1 : Int32) : Int32 × HS :=
  if (hf_LongForm_g a1) = 0 then
    (hf_RiscHart_give st (hf_LongForm_d a1) (hf_Arithmetic_plain (hf_LongForm_f a1) (hs_regs st ((hf_LongForm_a a1)).toNatClampNeg) (hs_regs st ((hf_LongForm_b a1)).toNatClampNeg)))
  else
    if (hf_LongForm_g a1) = 1 then
      (hf_RiscHart_give st (hf_LongForm_d a1) (hf_Arithmetic_multipliedOrDivided (hf_LongForm_f a1) (hs_regs st ((hf_LongForm_a a1)).toNatClampNeg) (hs_regs st ((hf_LongForm_b a1)).toNatClampNeg)))
    else
      if (hf_LongForm_g a1) = 32 then
        if (hf_LongForm_f a1) = 0 then
          (hf_RiscHart_give st (hf_LongForm_d a1) ((hs_regs st ((hf_LongForm_a a1)).toNatClampNeg) - (hs_regs st ((hf_LongForm_b a1)).toNatClampNeg)))
        else
          if (hf_LongForm_f a1) = 5 then
            (hf_RiscHart_give st (hf_LongForm_d a1) ((hs_regs st ((hf_LongForm_a a1)).toNatClampNeg) >>> (((hs_regs st ((hf_LongForm_b a1)).toNatClampNeg) &&& 31) &&& 31)))
          else
            (hf_RiscHart_trap st 2 a1)
      else
        (hf_RiscHart_trap st 2 a1)
def hf_LongForm_k (a1 : Int32) : Int32 :=
  (hf_Bits_part a1 27 5)
def hf_LongForm_isAtomic (a1 : Int32) : Int32 :=
  if (hf_LongForm_f a1) = 2 then
    if (hf_LongForm_k a1) = 0 then
      1
    else
      if (hf_LongForm_k a1) = 1 then
        1
      else
        if (hf_LongForm_k a1) = 2 then
          if (hf_LongForm_b a1) = 0 then
            1
          else
            0
        else
          if (hf_LongForm_k a1) = 3 then
            1
          else
            if (hf_LongForm_k a1) = 4 then
              1
            else
              if (hf_LongForm_k a1) = 8 then
                1
              else
                if (hf_LongForm_k a1) = 12 then
                  1
                else
                  if (hf_LongForm_k a1) = 16 then
                    1
                  else
                    if (hf_LongForm_k a1) = 20 then
                      1
                    else
                      if (hf_LongForm_k a1) = 24 then
                        1
                      else
                        if (hf_LongForm_k a1) = 28 then
                          1
                        else
                          0
  else
    0
def hf_Memory_reserve (st : HS) (a1 : Int32) : HS :=
  (hs_set_reserved st a1)
def hf_RiscHart_loadReserved (st : HS) (a1 : Int32) (a2 : Int32) : Int32 × HS :=
  (hf_RiscHart_give (hf_Memory_reserve st a2) a1 (hf_Memory_read (hf_Memory_reserve st a2) 2 a2))
def hf_Memory_reservedAddress (st : HS)  : Int32 :=
  (hs_reserved st)
def hf_RiscHart_storeConditional (st : HS) (a1 : Int32) (a2 : Int32) (a3 : Int32) : Int32 × HS :=
  if (hf_Memory_reservedAddress st) = a2 then
    (hf_RiscHart_give (hf_Memory_reserve (hf_Memory_write st 2 a2 a3) (-1)) a1 0)
  else
    (hf_RiscHart_give (hf_Memory_reserve st (-1)) a1 1)
def hf_Arithmetic_changed (a1 : Int32) (a2 : Int32) (a3 : Int32) : Int32 :=
  if a1 = 0 then
    (a2 + a3)
  else
    if a1 = 1 then
      a3
    else
      if a1 = 4 then
        (a2 ^^^ a3)
      else
        if a1 = 8 then
          (a2 ||| a3)
        else
          if a1 = 12 then
            (a2 &&& a3)
          else
            if a1 = 16 then
              if a3 ≤ a2 then
                a3
              else
                a2
            else
              if a1 = 20 then
                if a3 ≤ a2 then
                  a2
                else
                  a3
              else
                if a1 = 24 then
                  if (hf_Arithmetic_isBelow a2 a3) = 0 then
                    a3
                  else
                    a2
                else
                  if (hf_Arithmetic_isBelow a2 a3) = 0 then
                    a2
                  else
                    a3
def hf_RiscHart_change (st : HS) (a1 : Int32) (a2 : Int32) (a3 : Int32) (a4 : Int32) : Int32 × HS :=
  (hf_RiscHart_give (hf_Memory_write st 2 a3 (hf_Arithmetic_changed a1 (hf_Memory_read st 2 a3) a4)) a2 (hf_Memory_read st 2 a3))
def hf_RiscHart_longAtomic (st : HS) (a1 : Int32) : Int32 × HS :=
  if (hf_LongForm_isAtomic a1) = 0 then
    (hf_RiscHart_trap st 2 a1)
  else
    if (hf_Memory_isMisaligned 2 (hs_regs st ((hf_LongForm_a a1)).toNatClampNeg)) = 0 then
      if (hf_LongForm_k a1) = 2 then
        if (hf_Memory_allows st 1 (hs_regs st ((hf_LongForm_a a1)).toNatClampNeg)) = 0 then
          (hf_RiscHart_trap st 6 (hs_regs st ((hf_LongForm_a a1)).toNatClampNeg))
        else
          (hf_RiscHart_loadReserved st (hf_LongForm_d a1) (hs_regs st ((hf_LongForm_a a1)).toNatClampNeg))
      else
        if (hf_Memory_allows st 2 (hs_regs st ((hf_LongForm_a a1)).toNatClampNeg)) = 0 then
          (hf_RiscHart_trap st 7 (hs_regs st ((hf_LongForm_a a1)).toNatClampNeg))
        else
          if (hf_Memory_allows st 1 (hs_regs st ((hf_LongForm_a a1)).toNatClampNeg)) = 0 then
            (hf_RiscHart_trap st 6 (hs_regs st ((hf_LongForm_a a1)).toNatClampNeg))
          else
            if (hf_LongForm_k a1) = 2 then
              (hf_RiscHart_loadReserved st (hf_LongForm_d a1) (hs_regs st ((hf_LongForm_a a1)).toNatClampNeg))
            else
              if (hf_LongForm_k a1) = 3 then
                (hf_RiscHart_storeConditional st (hf_LongForm_d a1) (hs_regs st ((hf_LongForm_a a1)).toNatClampNeg) (hs_regs st ((hf_LongForm_b a1)).toNatClampNeg))
              else
                (hf_RiscHart_change st (hf_LongForm_k a1) (hf_LongForm_d a1) (hs_regs st ((hf_LongForm_a a1)).toNatClampNeg) (hs_regs st ((hf_LongForm_b a1)).toNatClampNeg))
    else
      (hf_RiscHart_trap st 5 (hs_regs st ((hf_LongForm_a a1)).toNatClampNeg))
def hf_RiscHart_readCounter (st : HS) (a1 : Int32) : Int32 × HS :=
  if (ja_ushr a1 20) = 3072 then
    (hf_RiscHart_give st (hf_LongForm_d a1) ((hs_retired st).toInt32))
  else
    if (ja_ushr a1 20) = 3073 then
      (hf_RiscHart_give st (hf_LongForm_d a1) ((hs_time st).toInt32))
    else
      if (ja_ushr a1 20) = 3074 then
        (hf_RiscHart_give st (hf_LongForm_d a1) ((hs_retired st).toInt32))
      else
        if (ja_ushr a1 20) = 3200 then
          (hf_RiscHart_give st (hf_LongForm_d a1) ((ja_lushr (hs_retired st) 32).toInt32))
        else
          if (ja_ushr a1 20) = 3201 then
            (hf_RiscHart_give st (hf_LongForm_d a1) ((ja_lushr (hs_time st) 32).toInt32))
          else
            if (ja_ushr a1 20) = 3202 then
              (hf_RiscHart_give st (hf_LongForm_d a1) ((ja_lushr (hs_retired st) 32).toInt32))
            else
              (hf_RiscHart_trap st 2 a1)
def hf_RiscHart_longSystem (st : HS) (a1 : Int32) : Int32 × HS :=
  if a1 = 115 then
    (hf_RiscHart_trap st 3 0)
  else
    if a1 = 1048691 then
      (hf_RiscHart_trap st 4 0)
    else
      if ((hf_LongForm_f a1) &&& 2) = 0 then
        (hf_RiscHart_trap st 2 a1)
      else
        if (hf_LongForm_a a1) = 0 then
          (hf_RiscHart_readCounter st a1)
        else
          (hf_RiscHart_trap st 2 a1)
def hf_RiscHart_carryOutLong (st : HS) (a1 : Int32) : Int32 × HS :=
  if (a1 &&& 127) = 3 then
    (hf_RiscHart_longLoad st a1)
  else
    if (a1 &&& 127) = 15 then
      if 1 < (hf_LongForm_f a1) then
        (hf_RiscHart_trap st 2 a1)
      else
        (0, st)
    else
      if (a1 &&& 127) = 19 then
        (hf_RiscHart_longWithNumber st a1)
      else
        if (a1 &&& 127) = 23 then
          (hf_RiscHart_give st (hf_LongForm_d a1) ((hs_place st) + (hf_LongForm_upperNumber a1)))
        else
          if (a1 &&& 127) = 35 then
            (hf_RiscHart_longStore st a1)
          else
            if (a1 &&& 127) = 47 then
              (hf_RiscHart_longAtomic st a1)
            else
              if (a1 &&& 127) = 51 then
                (hf_RiscHart_longWithRegisters st a1)
              else
                if (a1 &&& 127) = 55 then
                  (hf_RiscHart_give st (hf_LongForm_d a1) (hf_LongForm_upperNumber a1))
                else
                  if (a1 &&& 127) = 99 then
                    (hf_RiscHart_longBranch st a1)
                  else
                    if (a1 &&& 127) = 103 then
                      (hf_RiscHart_longJumpToRegister st a1)
                    else
                      if (a1 &&& 127) = 111 then
                        (hf_RiscHart_linkAndJump st (hf_LongForm_d a1) ((hs_place st) + (hf_LongForm_offsetJ a1)))
                      else
                        if (a1 &&& 127) = 115 then
                          (hf_RiscHart_longSystem st a1)
                        else
                          (hf_RiscHart_trap st 2 a1)
def hf_ShortForm_lowNear (a1 : Int32) : Int32 :=
  (8 + (hf_Bits_part a1 2 3))
def hf_ShortForm_highNear (a1 : Int32) : Int32 :=
  (8 + (hf_Bits_part a1 7 3))
def hf_ShortForm_nearOffset (a1 : Int32) : Int32 :=
  ((((hf_Bits_part a1 10 3) <<< (3 &&& 31)) ||| ((hf_Bits_part a1 6 1) <<< (2 &&& 31))) ||| ((hf_Bits_part a1 5 1) <<< (6 &&& 31)))
def hf_ShortForm_f (a1 : Int32) : Int32 :=
  (hf_Bits_part a1 13 3)
def hf_ShortForm_stackNumber (a1 : Int32) : Int32 :=
  (((((hf_Bits_part a1 11 2) <<< (4 &&& 31)) ||| ((hf_Bits_part a1 7 4) <<< (6 &&& 31))) ||| ((hf_Bits_part a1 6 1) <<< (2 &&& 31))) ||| ((hf_Bits_part a1 5 1) <<< (3 &&& 31)))
def hf_RiscHart_shortOfQ0 (st : HS) (a1 : Int32) : Int32 × HS :=
  if (hf_ShortForm_f a1) = 0 then
    if (hf_ShortForm_stackNumber a1) = 0 then
      (hf_RiscHart_trap st 2 a1)
    else
      (hf_RiscHart_give st (hf_ShortForm_lowNear a1) ((hs_regs st (2 : Int32).toNatClampNeg) + (hf_ShortForm_stackNumber a1)))
  else
    if (hf_ShortForm_f a1) = 2 then
      (hf_RiscHart_load st 2 (hf_ShortForm_lowNear a1) ((hs_regs st ((hf_ShortForm_highNear a1)).toNatClampNeg) + (hf_ShortForm_nearOffset a1)))
    else
      if (hf_ShortForm_f a1) = 6 then
        (hf_RiscHart_store st 2 ((hs_regs st ((hf_ShortForm_highNear a1)).toNatClampNeg) + (hf_ShortForm_nearOffset a1)) (hs_regs st ((hf_ShortForm_lowNear a1)).toNatClampNeg))
      else
        (hf_RiscHart_trap st 2 a1)
def hf_ShortForm_d (a1 : Int32) : Int32 :=
  (hf_Bits_part a1 7 5)
def hf_ShortForm_number (a1 : Int32) : Int32 :=
  (hf_Bits_signed (((hf_Bits_part a1 12 1) <<< (5 &&& 31)) ||| (hf_Bits_part a1 2 5)) 6)
def hf_ShortForm_offsetJ (a1 : Int32) : Int32 :=
  (hf_Bits_signed (((((((((hf_Bits_part a1 12 1) <<< (11 &&& 31)) ||| ((hf_Bits_part a1 11 1) <<< (4 &&& 31))) ||| ((hf_Bits_part a1 9 2) <<< (8 &&& 31))) ||| ((hf_Bits_part a1 8 1) <<< (10 &&& 31))) ||| ((hf_Bits_part a1 7 1) <<< (6 &&& 31))) ||| ((hf_Bits_part a1 6 1) <<< (7 &&& 31))) ||| ((hf_Bits_part a1 3 3) <<< (1 &&& 31))) ||| ((hf_Bits_part a1 2 1) <<< (5 &&& 31))) 12)
def hf_ShortForm_stackMove (a1 : Int32) : Int32 :=
  (hf_Bits_signed ((((((hf_Bits_part a1 12 1) <<< (9 &&& 31)) ||| ((hf_Bits_part a1 6 1) <<< (4 &&& 31))) ||| ((hf_Bits_part a1 5 1) <<< (6 &&& 31))) ||| ((hf_Bits_part a1 3 2) <<< (7 &&& 31))) ||| ((hf_Bits_part a1 2 1) <<< (5 &&& 31))) 10)
def hf_RiscHart_shortMoveStack (st : HS) (a1 : Int32) : Int32 × HS :=
  if (hf_ShortForm_stackMove a1) = 0 then
    (hf_RiscHart_trap st 2 a1)
  else
    (hf_RiscHart_give st 2 ((hs_regs st (2 : Int32).toNatClampNeg) + (hf_ShortForm_stackMove a1)))
def hf_RiscHart_shortUpperNumber (st : HS) (a1 : Int32) : Int32 × HS :=
  if (hf_ShortForm_number a1) = 0 then
    (hf_RiscHart_trap st 2 a1)
  else
    (hf_RiscHart_give st (hf_ShortForm_d a1) ((hf_ShortForm_number a1) <<< (12 &&& 31)))
def hf_ShortForm_bit12 (a1 : Int32) : Int32 :=
  if (hf_Bits_part a1 12 1) = 0 then
    0
  else
    1
def hf_ShortForm_b (a1 : Int32) : Int32 :=
  (hf_Bits_part a1 2 5)
def hf_Arithmetic_ofTwoNear (a1 : Int32) (a2 : Int32) (a3 : Int32) : Int32 :=
  if a1 = 0 then
    (a2 - a3)
  else
    if a1 = 1 then
      (a2 ^^^ a3)
    else
      if a1 = 2 then
        (a2 ||| a3)
      else
        (a2 &&& a3)
def hf_RiscHart_shortArithmetic (st : HS) (a1 : Int32) : Int32 × HS :=
  if (hf_Bits_part a1 10 2) = 2 then
    (hf_RiscHart_give st (hf_ShortForm_highNear a1) ((hs_regs st ((hf_ShortForm_highNear a1)).toNatClampNeg) &&& (hf_ShortForm_number a1)))
  else
    if (hf_ShortForm_bit12 a1) = 0 then
      if (hf_Bits_part a1 10 2) = 0 then
        (hf_RiscHart_give st (hf_ShortForm_highNear a1) (ja_ushr (hs_regs st ((hf_ShortForm_highNear a1)).toNatClampNeg) (hf_ShortForm_b a1)))
      else
        if (hf_Bits_part a1 10 2) = 1 then
          (hf_RiscHart_give st (hf_ShortForm_highNear a1) ((hs_regs st ((hf_ShortForm_highNear a1)).toNatClampNeg) >>> ((hf_ShortForm_b a1) &&& 31)))
        else
          (hf_RiscHart_give st (hf_ShortForm_highNear a1) (hf_Arithmetic_ofTwoNear (hf_Bits_part a1 5 2) (hs_regs st ((hf_ShortForm_highNear a1)).toNatClampNeg) (hs_regs st ((hf_ShortForm_lowNear a1)).toNatClampNeg)))
    else
      (hf_RiscHart_trap st 2 a1)
def hf_ShortForm_offsetT (a1 : Int32) : Int32 :=
  (hf_Bits_signed ((((((hf_Bits_part a1 12 1) <<< (8 &&& 31)) ||| ((hf_Bits_part a1 10 2) <<< (3 &&& 31))) ||| ((hf_Bits_part a1 5 2) <<< (6 &&& 31))) ||| ((hf_Bits_part a1 3 2) <<< (1 &&& 31))) ||| ((hf_Bits_part a1 2 1) <<< (5 &&& 31))) 9)
def hf_RiscHart_shortOfQ1 (st : HS) (a1 : Int32) : Int32 × HS :=
  if (hf_ShortForm_f a1) = 0 then
    (hf_RiscHart_give st (hf_ShortForm_d a1) ((hs_regs st ((hf_ShortForm_d a1)).toNatClampNeg) + (hf_ShortForm_number a1)))
  else
    if (hf_ShortForm_f a1) = 1 then
      (hf_RiscHart_linkAndJump st 1 ((hs_place st) + (hf_ShortForm_offsetJ a1)))
    else
      if (hf_ShortForm_f a1) = 2 then
        (hf_RiscHart_give st (hf_ShortForm_d a1) (hf_ShortForm_number a1))
      else
        if (hf_ShortForm_f a1) = 3 then
          if (hf_ShortForm_d a1) = 2 then
            (hf_RiscHart_shortMoveStack st a1)
          else
            (hf_RiscHart_shortUpperNumber st a1)
        else
          if (hf_ShortForm_f a1) = 4 then
            (hf_RiscHart_shortArithmetic st a1)
          else
            if (hf_ShortForm_f a1) = 5 then
              (hf_RiscHart_linkAndJump st 0 ((hs_place st) + (hf_ShortForm_offsetJ a1)))
            else
              if (hf_ShortForm_f a1) = 6 then
                if (hs_regs st ((hf_ShortForm_highNear a1)).toNatClampNeg) = 0 then
                  (hf_RiscHart_jumpIf st 1 ((hs_place st) + (hf_ShortForm_offsetT a1)))
                else
                  (hf_RiscHart_jumpIf st 0 ((hs_place st) + (hf_ShortForm_offsetT a1)))
              else
                if (hs_regs st ((hf_ShortForm_highNear a1)).toNatClampNeg) = 0 then
                  (hf_RiscHart_jumpIf st 0 ((hs_place st) + (hf_ShortForm_offsetT a1)))
                else
                  (hf_RiscHart_jumpIf st 1 ((hs_place st) + (hf_ShortForm_offsetT a1)))
def hf_ShortForm_stackLoadOffset (a1 : Int32) : Int32 :=
  ((((hf_Bits_part a1 12 1) <<< (5 &&& 31)) ||| ((hf_Bits_part a1 4 3) <<< (2 &&& 31))) ||| ((hf_Bits_part a1 2 2) <<< (6 &&& 31)))
def hf_RiscHart_shortJumpToRegister (st : HS) (a1 : Int32) : Int32 × HS :=
  if (hf_ShortForm_d a1) = 0 then
    if (hf_ShortForm_bit12 a1) = 0 then
      (hf_RiscHart_trap st 2 a1)
    else
      (hf_RiscHart_trap st 4 0)
  else
    if (hf_ShortForm_bit12 a1) = 0 then
      (hf_RiscHart_linkAndJump st 0 (hs_regs st ((hf_ShortForm_d a1)).toNatClampNeg))
    else
      (hf_RiscHart_linkAndJump st 1 (hs_regs st ((hf_ShortForm_d a1)).toNatClampNeg))
def hf_RiscHart_shortMoveOrAdd (st : HS) (a1 : Int32) : Int32 × HS :=
  if (hf_ShortForm_bit12 a1) = 0 then
    (hf_RiscHart_give st (hf_ShortForm_d a1) (hs_regs st ((hf_ShortForm_b a1)).toNatClampNeg))
  else
    (hf_RiscHart_give st (hf_ShortForm_d a1) ((hs_regs st ((hf_ShortForm_d a1)).toNatClampNeg) + (hs_regs st ((hf_ShortForm_b a1)).toNatClampNeg)))
def hf_ShortForm_stackStoreOffset (a1 : Int32) : Int32 :=
  (((hf_Bits_part a1 9 4) <<< (2 &&& 31)) ||| ((hf_Bits_part a1 7 2) <<< (6 &&& 31)))
def hf_RiscHart_shortOfQ2 (st : HS) (a1 : Int32) : Int32 × HS :=
  if (hf_ShortForm_f a1) = 0 then
    if (hf_ShortForm_bit12 a1) = 0 then
      (hf_RiscHart_give st (hf_ShortForm_d a1) ((hs_regs st ((hf_ShortForm_d a1)).toNatClampNeg) <<< ((hf_ShortForm_b a1) &&& 31)))
    else
      (hf_RiscHart_trap st 2 a1)
  else
    if (hf_ShortForm_f a1) = 2 then
      if (hf_ShortForm_d a1) = 0 then
        (hf_RiscHart_trap st 2 a1)
      else
        (hf_RiscHart_load st 2 (hf_ShortForm_d a1) ((hs_regs st (2 : Int32).toNatClampNeg) + (hf_ShortForm_stackLoadOffset a1)))
    else
      if (hf_ShortForm_f a1) = 4 then
        if (hf_ShortForm_b a1) = 0 then
          (hf_RiscHart_shortJumpToRegister st a1)
        else
          (hf_RiscHart_shortMoveOrAdd st a1)
      else
        if (hf_ShortForm_f a1) = 6 then
          (hf_RiscHart_store st 2 ((hs_regs st (2 : Int32).toNatClampNeg) + (hf_ShortForm_stackStoreOffset a1)) (hs_regs st ((hf_ShortForm_b a1)).toNatClampNeg))
        else
          (hf_RiscHart_trap st 2 a1)
def hf_RiscHart_carryOutShort (st : HS) (a1 : Int32) : Int32 × HS :=
  if (a1 &&& 3) = 0 then
    (hf_RiscHart_shortOfQ0 st a1)
  else
    if (a1 &&& 3) = 1 then
      (hf_RiscHart_shortOfQ1 st a1)
    else
      (hf_RiscHart_shortOfQ2 st a1)
def hf_RiscHart_carryOutNext (st : HS)  : Int32 × HS :=
  if (hf_Memory_mayCarryOut st (hs_place st)) = 0 then
    (hf_RiscHart_trap st 1 (hs_place st))
  else
    if ((hf_Memory_read st 5 (hs_place st)) &&& 3) = 3 then
      if (hf_Memory_mayCarryOut st ((hs_place st) + 2)) = 0 then
        (hf_RiscHart_trap st 1 (hs_place st))
      else
        if (hf_RiscHart_carryOutLong (hs_set_behind st ((hs_place st) + 4)) (hf_RiscHart_longFrom (hs_set_behind st ((hs_place st) + 4)) (hf_Memory_read st 5 (hs_place st)))).1 = 0 then
          ((hf_RiscHart_carryOutLong (hs_set_behind st ((hs_place st) + 4)) (hf_RiscHart_longFrom (hs_set_behind st ((hs_place st) + 4)) (hf_Memory_read st 5 (hs_place st)))).1, (hs_set_place (hs_set_retired ((hf_RiscHart_carryOutLong (hs_set_behind st ((hs_place st) + 4)) (hf_RiscHart_longFrom (hs_set_behind st ((hs_place st) + 4)) (hf_Memory_read st 5 (hs_place st)))).2) ((hs_retired ((hf_RiscHart_carryOutLong (hs_set_behind st ((hs_place st) + 4)) (hf_RiscHart_longFrom (hs_set_behind st ((hs_place st) + 4)) (hf_Memory_read st 5 (hs_place st)))).2)) + 1)) (hs_behind ((hf_RiscHart_carryOutLong (hs_set_behind st ((hs_place st) + 4)) (hf_RiscHart_longFrom (hs_set_behind st ((hs_place st) + 4)) (hf_Memory_read st 5 (hs_place st)))).2))))
        else
          (hf_RiscHart_carryOutLong (hs_set_behind st ((hs_place st) + 4)) (hf_RiscHart_longFrom (hs_set_behind st ((hs_place st) + 4)) (hf_Memory_read st 5 (hs_place st))))
    else
      if (hf_RiscHart_carryOutShort (hs_set_behind st ((hs_place st) + 2)) (hf_Memory_read st 5 (hs_place st))).1 = 0 then
        ((hf_RiscHart_carryOutShort (hs_set_behind st ((hs_place st) + 2)) (hf_Memory_read st 5 (hs_place st))).1, (hs_set_place (hs_set_retired ((hf_RiscHart_carryOutShort (hs_set_behind st ((hs_place st) + 2)) (hf_Memory_read st 5 (hs_place st))).2) ((hs_retired ((hf_RiscHart_carryOutShort (hs_set_behind st ((hs_place st) + 2)) (hf_Memory_read st 5 (hs_place st))).2)) + 1)) (hs_behind ((hf_RiscHart_carryOutShort (hs_set_behind st ((hs_place st) + 2)) (hf_Memory_read st 5 (hs_place st))).2))))
      else
        (hf_RiscHart_carryOutShort (hs_set_behind st ((hs_place st) + 2)) (hf_Memory_read st 5 (hs_place st)))
def hf_RiscHart_step (st : HS)  : Int32 × HS :=
  (hf_RiscHart_carryOutNext st)
/-! indices that stay inside -/
theorem in_k {x : Int32} {n : Nat} (h : ¬ (x < 0 ∨ n ≤ x.toNatClampNeg)) : vp_in x n := h
theorem lg_ne0 {x : Int64} (h : ¬ lg_cmp x 0 = 0) : ¬ x = 0 := fun q => h (by rw [q]; decide)
theorem in_LongForm_d (w : Int32) : vp_in (hf_LongForm_d w) 32 := pk_andIn (ja_ushr w 7) 5 (by decide) (by decide)
theorem in_LongForm_a (w : Int32) : vp_in (hf_LongForm_a w) 32 := pk_andIn (ja_ushr w 15) 5 (by decide) (by decide)
theorem in_LongForm_b (w : Int32) : vp_in (hf_LongForm_b w) 32 := pk_andIn (ja_ushr w 20) 5 (by decide) (by decide)
theorem in_ShortForm_d (w : Int32) : vp_in (hf_ShortForm_d w) 32 := pk_andIn (ja_ushr w 7) 5 (by decide) (by decide)
theorem in_ShortForm_b (w : Int32) : vp_in (hf_ShortForm_b w) 32 := pk_andIn (ja_ushr w 2) 5 (by decide) (by decide)
theorem in_near (x : Int32) : vp_in (8 + (x &&& 7)) 32 := by
  obtain ⟨j, hj, e⟩ := pk_andE x (m := 7) 3 (by decide)
  rw [e, show (8 : Int32) = nI 8 from rfl, nI_add]
  exact vp_in_nI (by omega) (by omega)
theorem in_ShortForm_lowNear (w : Int32) : vp_in (hf_ShortForm_lowNear w) 32 := in_near (ja_ushr w 2)
theorem in_ShortForm_highNear (w : Int32) : vp_in (hf_ShortForm_highNear w) 32 := in_near (ja_ushr w 7)
theorem in_Memory_wordIndex (a : Int32) : vp_in (hf_Memory_wordIndex a) 16384 := by
  obtain ⟨j, hj, e⟩ := pk_andE a (m := 65535) 16 (by decide)
  show vp_in (ja_ushr (a &&& 65535) 2) 16384
  rw [e]
  unfold ja_ushr
  rw [pk_ushrN (by omega) 2 2 (by decide)]
  exact vp_in_nI (by omega) (by omega)
theorem ja_holds {a : Int32} (h : ¬ hf_Memory_holds a = 0) : ∃ j : Nat, j ≤ 65535 ∧ a = nI j := by
  unfold hf_Memory_holds at h
  by_cases h1 : a < 0
  · exact absurd (if_pos h1) h
  · rw [if_neg h1] at h
    by_cases h2 : 65535 < a
    · exact absurd (if_pos h2) h
    · exact nI_of2 (M := 65535) (n := 65535) (by decide) h1 (by
        rw [Int32.le_iff_toInt_le]
        rw [Int32.lt_iff_toInt_lt] at h2
        omega)
theorem in_page {a : Int32} (h : ¬ hf_Memory_holds a = 0) : vp_in (ja_ushr a 10) 64 := by
  obtain ⟨j, hj, e⟩ := ja_holds h
  rw [e]
  unfold ja_ushr
  rw [pk_ushrN (by omega) 10 10 (by decide)]
  exact vp_in_nI (by omega) (by omega)
