/-- what the reference holds -/
abbrev MS : Type := (Nat → Int32) × (Nat → Int32) × (Nat → Int32) × Int32 × Int32 × Int32 × Int32 × Int32 × Int64 × Int64 × Int32 × Int32 × Int32 × Int32
def ms_bytes (z : MS) : Nat → Int32 := z.1
def ms_open (z : MS) : Nat → Int32 := z.2.1
def ms_x (z : MS) : Nat → Int32 := z.2.2.1
def ms_code (z : MS) : Int32 := z.2.2.2.1
def ms_place (z : MS) : Int32 := z.2.2.2.2.1
def ms_cause (z : MS) : Int32 := z.2.2.2.2.2.1
def ms_value (z : MS) : Int32 := z.2.2.2.2.2.2.1
def ms_reserved (z : MS) : Int32 := z.2.2.2.2.2.2.2.1
def ms_retired (z : MS) : Int64 := z.2.2.2.2.2.2.2.2.1
def ms_clock (z : MS) : Int64 := z.2.2.2.2.2.2.2.2.2.1
def ms_bits (z : MS) : Int32 := z.2.2.2.2.2.2.2.2.2.2.1
def ms_length (z : MS) : Int32 := z.2.2.2.2.2.2.2.2.2.2.2.1
def ms_next (z : MS) : Int32 := z.2.2.2.2.2.2.2.2.2.2.2.2.1
def ms_met (z : MS) : Int32 := z.2.2.2.2.2.2.2.2.2.2.2.2.2
def ms_set_code (z : MS) (v : Int32) : MS := (z.1, z.2.1, z.2.2.1, v, z.2.2.2.2.1, z.2.2.2.2.2.1, z.2.2.2.2.2.2.1, z.2.2.2.2.2.2.2.1, z.2.2.2.2.2.2.2.2.1, z.2.2.2.2.2.2.2.2.2.1, z.2.2.2.2.2.2.2.2.2.2.1, z.2.2.2.2.2.2.2.2.2.2.2.1, z.2.2.2.2.2.2.2.2.2.2.2.2.1, z.2.2.2.2.2.2.2.2.2.2.2.2.2)
def ms_set_place (z : MS) (v : Int32) : MS := (z.1, z.2.1, z.2.2.1, z.2.2.2.1, v, z.2.2.2.2.2.1, z.2.2.2.2.2.2.1, z.2.2.2.2.2.2.2.1, z.2.2.2.2.2.2.2.2.1, z.2.2.2.2.2.2.2.2.2.1, z.2.2.2.2.2.2.2.2.2.2.1, z.2.2.2.2.2.2.2.2.2.2.2.1, z.2.2.2.2.2.2.2.2.2.2.2.2.1, z.2.2.2.2.2.2.2.2.2.2.2.2.2)
def ms_set_cause (z : MS) (v : Int32) : MS := (z.1, z.2.1, z.2.2.1, z.2.2.2.1, z.2.2.2.2.1, v, z.2.2.2.2.2.2.1, z.2.2.2.2.2.2.2.1, z.2.2.2.2.2.2.2.2.1, z.2.2.2.2.2.2.2.2.2.1, z.2.2.2.2.2.2.2.2.2.2.1, z.2.2.2.2.2.2.2.2.2.2.2.1, z.2.2.2.2.2.2.2.2.2.2.2.2.1, z.2.2.2.2.2.2.2.2.2.2.2.2.2)
def ms_set_value (z : MS) (v : Int32) : MS := (z.1, z.2.1, z.2.2.1, z.2.2.2.1, z.2.2.2.2.1, z.2.2.2.2.2.1, v, z.2.2.2.2.2.2.2.1, z.2.2.2.2.2.2.2.2.1, z.2.2.2.2.2.2.2.2.2.1, z.2.2.2.2.2.2.2.2.2.2.1, z.2.2.2.2.2.2.2.2.2.2.2.1, z.2.2.2.2.2.2.2.2.2.2.2.2.1, z.2.2.2.2.2.2.2.2.2.2.2.2.2)
def ms_set_reserved (z : MS) (v : Int32) : MS := (z.1, z.2.1, z.2.2.1, z.2.2.2.1, z.2.2.2.2.1, z.2.2.2.2.2.1, z.2.2.2.2.2.2.1, v, z.2.2.2.2.2.2.2.2.1, z.2.2.2.2.2.2.2.2.2.1, z.2.2.2.2.2.2.2.2.2.2.1, z.2.2.2.2.2.2.2.2.2.2.2.1, z.2.2.2.2.2.2.2.2.2.2.2.2.1, z.2.2.2.2.2.2.2.2.2.2.2.2.2)
def ms_set_retired (z : MS) (v : Int64) : MS := (z.1, z.2.1, z.2.2.1, z.2.2.2.1, z.2.2.2.2.1, z.2.2.2.2.2.1, z.2.2.2.2.2.2.1, z.2.2.2.2.2.2.2.1, v, z.2.2.2.2.2.2.2.2.2.1, z.2.2.2.2.2.2.2.2.2.2.1, z.2.2.2.2.2.2.2.2.2.2.2.1, z.2.2.2.2.2.2.2.2.2.2.2.2.1, z.2.2.2.2.2.2.2.2.2.2.2.2.2)
def ms_set_clock (z : MS) (v : Int64) : MS := (z.1, z.2.1, z.2.2.1, z.2.2.2.1, z.2.2.2.2.1, z.2.2.2.2.2.1, z.2.2.2.2.2.2.1, z.2.2.2.2.2.2.2.1, z.2.2.2.2.2.2.2.2.1, v, z.2.2.2.2.2.2.2.2.2.2.1, z.2.2.2.2.2.2.2.2.2.2.2.1, z.2.2.2.2.2.2.2.2.2.2.2.2.1, z.2.2.2.2.2.2.2.2.2.2.2.2.2)
def ms_set_bits (z : MS) (v : Int32) : MS := (z.1, z.2.1, z.2.2.1, z.2.2.2.1, z.2.2.2.2.1, z.2.2.2.2.2.1, z.2.2.2.2.2.2.1, z.2.2.2.2.2.2.2.1, z.2.2.2.2.2.2.2.2.1, z.2.2.2.2.2.2.2.2.2.1, v, z.2.2.2.2.2.2.2.2.2.2.2.1, z.2.2.2.2.2.2.2.2.2.2.2.2.1, z.2.2.2.2.2.2.2.2.2.2.2.2.2)
def ms_set_length (z : MS) (v : Int32) : MS := (z.1, z.2.1, z.2.2.1, z.2.2.2.1, z.2.2.2.2.1, z.2.2.2.2.2.1, z.2.2.2.2.2.2.1, z.2.2.2.2.2.2.2.1, z.2.2.2.2.2.2.2.2.1, z.2.2.2.2.2.2.2.2.2.1, z.2.2.2.2.2.2.2.2.2.2.1, v, z.2.2.2.2.2.2.2.2.2.2.2.2.1, z.2.2.2.2.2.2.2.2.2.2.2.2.2)
def ms_set_next (z : MS) (v : Int32) : MS := (z.1, z.2.1, z.2.2.1, z.2.2.2.1, z.2.2.2.2.1, z.2.2.2.2.2.1, z.2.2.2.2.2.2.1, z.2.2.2.2.2.2.2.1, z.2.2.2.2.2.2.2.2.1, z.2.2.2.2.2.2.2.2.2.1, z.2.2.2.2.2.2.2.2.2.2.1, z.2.2.2.2.2.2.2.2.2.2.2.1, v, z.2.2.2.2.2.2.2.2.2.2.2.2.2)
def ms_set_met (z : MS) (v : Int32) : MS := (z.1, z.2.1, z.2.2.1, z.2.2.2.1, z.2.2.2.2.1, z.2.2.2.2.2.1, z.2.2.2.2.2.2.1, z.2.2.2.2.2.2.2.1, z.2.2.2.2.2.2.2.2.1, z.2.2.2.2.2.2.2.2.2.1, z.2.2.2.2.2.2.2.2.2.2.1, z.2.2.2.2.2.2.2.2.2.2.2.1, z.2.2.2.2.2.2.2.2.2.2.2.2.1, v)
def ms_set_byte (z : MS) (i v : Int32) : MS := ((upd z.1 i.toNatClampNeg v), z.2.1, z.2.2.1, z.2.2.2.1, z.2.2.2.2.1, z.2.2.2.2.2.1, z.2.2.2.2.2.2.1, z.2.2.2.2.2.2.2.1, z.2.2.2.2.2.2.2.2.1, z.2.2.2.2.2.2.2.2.2.1, z.2.2.2.2.2.2.2.2.2.2.1, z.2.2.2.2.2.2.2.2.2.2.2.1, z.2.2.2.2.2.2.2.2.2.2.2.2.1, z.2.2.2.2.2.2.2.2.2.2.2.2.2)
def ms_set_open (z : MS) (i v : Int32) : MS := (z.1, (upd z.2.1 i.toNatClampNeg v), z.2.2.1, z.2.2.2.1, z.2.2.2.2.1, z.2.2.2.2.2.1, z.2.2.2.2.2.2.1, z.2.2.2.2.2.2.2.1, z.2.2.2.2.2.2.2.2.1, z.2.2.2.2.2.2.2.2.2.1, z.2.2.2.2.2.2.2.2.2.2.1, z.2.2.2.2.2.2.2.2.2.2.2.1, z.2.2.2.2.2.2.2.2.2.2.2.2.1, z.2.2.2.2.2.2.2.2.2.2.2.2.2)
def ms_set_x (z : MS) (i v : Int32) : MS := (z.1, z.2.1, (upd z.2.2.1 i.toNatClampNeg v), z.2.2.2.1, z.2.2.2.2.1, z.2.2.2.2.2.1, z.2.2.2.2.2.2.1, z.2.2.2.2.2.2.2.1, z.2.2.2.2.2.2.2.2.1, z.2.2.2.2.2.2.2.2.2.1, z.2.2.2.2.2.2.2.2.2.2.1, z.2.2.2.2.2.2.2.2.2.2.2.1, z.2.2.2.2.2.2.2.2.2.2.2.2.1, z.2.2.2.2.2.2.2.2.2.2.2.2.2)
abbrev ms_W (cB cO cX : ClassId) (m0 m1 m2 m3 : Nat) (z : MS) : va_W := [(m0, .inr (2, [.int (ms_code z), .ref m1, .ref m2, .ref m3, .int (ms_place z), .int (ms_cause z), .int (ms_value z), .int (ms_reserved z), .long (ms_retired z), .long (ms_clock z), .int (ms_bits z), .int (ms_length z), .int (ms_next z), .int (ms_met z)])), (m1, .inl (cB, 65536, .inl (ms_bytes z))), (m2, .inl (cO, 64, .inl (ms_open z))), (m3, .inl (cX, 32, .inl (ms_x z)))]
def mf_RiscHartModel_thrown (st : MS)  : Int32 :=
  (ms_code st)
def mf_RiscHartModel_in (a1 : Int32) (a2 : Int32) (a3 : Int32) : Int32 :=
  if a1 < a2 then
    0
  else
    if a3 < a1 then
      0
    else
      1
def mf_RiscHartModel_write (st : MS) (a1 : Int32) (a2 : Int32) : MS :=
  if (ms_reserved st) = (-1) then
    (ms_set_byte st a1 (a2 &&& 255))
  else
    if (a1 / 4) = ((ms_reserved st) / 4) then
      (ms_set_reserved (ms_set_byte st a1 (a2 &&& 255)) (-1))
    else
      (ms_set_byte st a1 (a2 &&& 255))
def mf_RiscHartModel_poke (st : MS) (a1 : Int32) (a2 : Int32) : MS :=
  if (mf_RiscHartModel_in a1 0 65535) = 0 then
    (ms_set_code st 1)
  else
    (mf_RiscHartModel_write (ms_set_code st 0) a1 a2)
def mf_RiscHartModel_plant (st : MS) (a1 : Int32) (a2 : Int32) : MS :=
  if (mf_RiscHartModel_in a1 0 65532) = 0 then
    (ms_set_code st 1)
  else
    if (a1 - a1 / 4 * 4) = 0 then
      if (ms_code (mf_RiscHartModel_write (ms_set_code st 0) (a1 + 0) (a2 >>> (((8 : Int32) * 0) &&& 31)))) = 0 then
        if (ms_code (mf_RiscHartModel_write (mf_RiscHartModel_write (ms_set_code st 0) (a1 + 0) (a2 >>> (((8 : Int32) * 0) &&& 31))) (a1 + 1) (a2 >>> (((8 : Int32) * 1) &&& 31)))) = 0 then
          if (ms_code (mf_RiscHartModel_write (mf_RiscHartModel_write (mf_RiscHartModel_write (ms_set_code st 0) (a1 + 0) (a2 >>> (((8 : Int32) * 0) &&& 31))) (a1 + 1) (a2 >>> (((8 : Int32) * 1) &&& 31))) (a1 + 2) (a2 >>> (((8 : Int32) * 2) &&& 31)))) = 0 then
            (mf_RiscHartModel_write (mf_RiscHartModel_write (mf_RiscHartModel_write (mf_RiscHartModel_write (ms_set_code st 0) (a1 + 0) (a2 >>> (((8 : Int32) * 0) &&& 31))) (a1 + 1) (a2 >>> (((8 : Int32) * 1) &&& 31))) (a1 + 2) (a2 >>> (((8 : Int32) * 2) &&& 31))) (a1 + 3) (a2 >>> (((8 : Int32) * 3) &&& 31)))
          else
            (mf_RiscHartModel_write (mf_RiscHartModel_write (mf_RiscHartModel_write (ms_set_code st 0) (a1 + 0) (a2 >>> (((8 : Int32) * 0) &&& 31))) (a1 + 1) (a2 >>> (((8 : Int32) * 1) &&& 31))) (a1 + 2) (a2 >>> (((8 : Int32) * 2) &&& 31)))
        else
          (mf_RiscHartModel_write (mf_RiscHartModel_write (ms_set_code st 0) (a1 + 0) (a2 >>> (((8 : Int32) * 0) &&& 31))) (a1 + 1) (a2 >>> (((8 : Int32) * 1) &&& 31)))
      else
        (mf_RiscHartModel_write (ms_set_code st 0) (a1 + 0) (a2 >>> (((8 : Int32) * 0) &&& 31)))
    else
      (ms_set_code st 1)
def mf_RiscHartModel_peek (st : MS) (a1 : Int32) : Int32 × MS :=
  if (mf_RiscHartModel_in a1 0 65535) = 0 then
    (0, (ms_set_code st 1))
  else
    ((ms_bytes st (a1).toNatClampNeg), (ms_set_code st 0))
def mf_RiscHartModel_rights (st : MS) (a1 : Int32) (a2 : Int32) : Int32 × MS :=
  if (mf_RiscHartModel_in a1 0 63) = 0 then
    (0, (ms_set_code st 1))
  else
    if (mf_RiscHartModel_in a2 0 7) = 0 then
      (0, (ms_set_code st 1))
    else
      ((ms_open st (a1).toNatClampNeg), (ms_set_open (ms_set_code st 0) a1 a2))
def mf_RiscHartModel_set (st : MS) (a1 : Int32) (a2 : Int32) : Int32 × MS :=
  if (mf_RiscHartModel_in a1 0 31) = 0 then
    (0, (ms_set_code st 1))
  else
    if a1 = 0 then
      (0, (ms_set_code st 0))
    else
      (1, (ms_set_x (ms_set_code st 0) a1 a2))
def mf_RiscHartModel_register (st : MS) (a1 : Int32) : Int32 × MS :=
  if (mf_RiscHartModel_in a1 0 31) = 0 then
    (0, (ms_set_code st 1))
  else
    ((ms_x st (a1).toNatClampNeg), (ms_set_code st 0))
def mf_RiscHartModel_jump (st : MS) (a1 : Int32) : MS :=
  (ms_set_place (ms_set_code st 0) a1)
def mf_RiscHartModel_clock (st : MS) (a1 : Int64) : MS :=
  (ms_set_clock (ms_set_code st 0) a1)
def mf_RiscHartModel_part (a1 : Int32) (a2 : Int32) (a3 : Int32) : Int32 :=
  ((ja_ushr a1 a2) &&& (((1 : Int32) <<< (a3 &&& 31)) - 1))
def mf_RiscHartModel_bit (a1 : Int32) (a2 : Int32) (a3 : Int32) (a4 : Int32) : Int32 :=
  ((mf_RiscHartModel_part a1 a2 a3) <<< (a4 &&& 31))
def mf_RiscHartModel_signed (a1 : Int32) (a2 : Int32) : Int32 :=
  ((a1 <<< ((32 - a2) &&& 31)) >>> ((32 - a2) &&& 31))
def mf_RiscHartModel_immediate (a1 : Int32) (a2 : Int32) (a3 : Int32) (a4 : Int32) (a5 : Int32) : Int32 :=
  ((((a1 ||| (a3 <<< (7 &&& 31))) ||| (a2 <<< (12 &&& 31))) ||| (a4 <<< (15 &&& 31))) ||| (a5 <<< (20 &&& 31)))
def mf_RiscHartModel_registers (a1 : Int32) (a2 : Int32) (a3 : Int32) (a4 : Int32) (a5 : Int32) : Int32 :=
  ((((((51 : Int32) ||| (a3 <<< (7 &&& 31))) ||| (a1 <<< (12 &&& 31))) ||| (a4 <<< (15 &&& 31))) ||| (a5 <<< (20 &&& 31))) ||| (a2 <<< (25 &&& 31)))
def mf_RiscHartModel_store (a1 : Int32) (a2 : Int32) (a3 : Int32) : Int32 :=
  ((((((35 : Int32) ||| (mf_RiscHartModel_bit a3 0 5 7)) ||| (8192 : Int32)) ||| (a1 <<< (15 &&& 31))) ||| (a2 <<< (20 &&& 31))) ||| (mf_RiscHartModel_bit a3 5 7 25))
def mf_RiscHartModel_link (a1 : Int32) (a2 : Int32) : Int32 :=
  ((((((111 : Int32) ||| (a1 <<< (7 &&& 31))) ||| (mf_RiscHartModel_bit a2 12 8 12)) ||| (mf_RiscHartModel_bit a2 11 1 20)) ||| (mf_RiscHartModel_bit a2 1 10 21)) ||| (mf_RiscHartModel_bit a2 20 1 31))
def mf_RiscHartModel_branch (a1 : Int32) (a2 : Int32) (a3 : Int32) : Int32 :=
  (((((((99 : Int32) ||| (mf_RiscHartModel_bit a3 11 1 7)) ||| (mf_RiscHartModel_bit a3 1 4 8)) ||| (a1 <<< (12 &&& 31))) ||| (a2 <<< (15 &&& 31))) ||| (mf_RiscHartModel_bit a3 5 6 25)) ||| (mf_RiscHartModel_bit a3 12 1 31))
def mf_RiscHartModel_zero (a1 : Int32) (a2 : Int32) : Int32 :=
  if a2 = 0 then
    if ((((mf_RiscHartModel_bit a1 11 2 4) ||| (mf_RiscHartModel_bit a1 7 4 6)) ||| (mf_RiscHartModel_bit a1 6 1 2)) ||| (mf_RiscHartModel_bit a1 5 1 3)) = 0 then
      0
    else
      (mf_RiscHartModel_immediate 19 0 (8 + (mf_RiscHartModel_part a1 2 3)) 2 ((((mf_RiscHartModel_bit a1 11 2 4) ||| (mf_RiscHartModel_bit a1 7 4 6)) ||| (mf_RiscHartModel_bit a1 6 1 2)) ||| (mf_RiscHartModel_bit a1 5 1 3)))
  else
    if a2 = 2 then
      (mf_RiscHartModel_immediate 3 2 (8 + (mf_RiscHartModel_part a1 2 3)) (8 + (mf_RiscHartModel_part a1 7 3)) (((mf_RiscHartModel_bit a1 10 3 3) ||| (mf_RiscHartModel_bit a1 6 1 2)) ||| (mf_RiscHartModel_bit a1 5 1 6)))
    else
      if a2 = 6 then
        (mf_RiscHartModel_store (8 + (mf_RiscHartModel_part a1 7 3)) (8 + (mf_RiscHartModel_part a1 2 3)) (((mf_RiscHartModel_bit a1 10 3 3) ||| (mf_RiscHartModel_bit a1 6 1 2)) ||| (mf_RiscHartModel_bit a1 5 1 6)))
      else
        0
def mf_RiscHartModel_four (a1 : Int32) (a2 : Int32) : Int32 :=
  if (mf_RiscHartModel_part a1 10 2) = 2 then
    (mf_RiscHartModel_immediate 19 7 (8 + (mf_RiscHartModel_part a1 7 3)) (8 + (mf_RiscHartModel_part a1 7 3)) a2)
  else
    if (mf_RiscHartModel_part a1 12 1) = 1 then
      0
    else
      if 2 ≤ (mf_RiscHartModel_part a1 10 2) then
        if (mf_RiscHartModel_part a1 5 2) = 0 then
          (mf_RiscHartModel_registers 0 32 (8 + (mf_RiscHartModel_part a1 7 3)) (8 + (mf_RiscHartModel_part a1 7 3)) (8 + (mf_RiscHartModel_part a1 2 3)))
        else
          if (mf_RiscHartModel_part a1 5 2) = 1 then
            (mf_RiscHartModel_registers 4 0 (8 + (mf_RiscHartModel_part a1 7 3)) (8 + (mf_RiscHartModel_part a1 7 3)) (8 + (mf_RiscHartModel_part a1 2 3)))
          else
            (mf_RiscHartModel_registers ((mf_RiscHartModel_part a1 5 2) + 4) 0 (8 + (mf_RiscHartModel_part a1 7 3)) (8 + (mf_RiscHartModel_part a1 7 3)) (8 + (mf_RiscHartModel_part a1 2 3)))
      else
        (mf_RiscHartModel_immediate 19 5 (8 + (mf_RiscHartModel_part a1 7 3)) (8 + (mf_RiscHartModel_part a1 7 3)) ((mf_RiscHartModel_part a1 2 5) ||| ((mf_RiscHartModel_part a1 10 2) <<< (10 &&& 31))))
def mf_RiscHartModel_one (a1 : Int32) (a2 : Int32) : Int32 :=
  if a2 = 0 then
    (mf_RiscHartModel_immediate 19 0 (mf_RiscHartModel_part a1 7 5) (mf_RiscHartModel_part a1 7 5) (mf_RiscHartModel_signed ((mf_RiscHartModel_bit a1 12 1 5) ||| (mf_RiscHartModel_part a1 2 5)) 6))
  else
    if a2 = 1 then
      (mf_RiscHartModel_link 1 (mf_RiscHartModel_signed ((((((((mf_RiscHartModel_bit a1 12 1 11) ||| (mf_RiscHartModel_bit a1 11 1 4)) ||| (mf_RiscHartModel_bit a1 9 2 8)) ||| (mf_RiscHartModel_bit a1 8 1 10)) ||| (mf_RiscHartModel_bit a1 7 1 6)) ||| (mf_RiscHartModel_bit a1 6 1 7)) ||| (mf_RiscHartModel_bit a1 3 3 1)) ||| (mf_RiscHartModel_bit a1 2 1 5)) 12))
    else
      if a2 = 2 then
        (mf_RiscHartModel_immediate 19 0 (mf_RiscHartModel_part a1 7 5) 0 (mf_RiscHartModel_signed ((mf_RiscHartModel_bit a1 12 1 5) ||| (mf_RiscHartModel_part a1 2 5)) 6))
      else
        if a2 = 3 then
          if (mf_RiscHartModel_part a1 7 5) = 2 then
            if (mf_RiscHartModel_signed (((((mf_RiscHartModel_bit a1 12 1 9) ||| (mf_RiscHartModel_bit a1 6 1 4)) ||| (mf_RiscHartModel_bit a1 5 1 6)) ||| (mf_RiscHartModel_bit a1 3 2 7)) ||| (mf_RiscHartModel_bit a1 2 1 5)) 10) = 0 then
              0
            else
              (mf_RiscHartModel_immediate 19 0 2 2 (mf_RiscHartModel_signed (((((mf_RiscHartModel_bit a1 12 1 9) ||| (mf_RiscHartModel_bit a1 6 1 4)) ||| (mf_RiscHartModel_bit a1 5 1 6)) ||| (mf_RiscHartModel_bit a1 3 2 7)) ||| (mf_RiscHartModel_bit a1 2 1 5)) 10))
          else
            if (mf_RiscHartModel_signed ((mf_RiscHartModel_bit a1 12 1 5) ||| (mf_RiscHartModel_part a1 2 5)) 6) = 0 then
              0
            else
              (((55 : Int32) ||| ((mf_RiscHartModel_part a1 7 5) <<< (7 &&& 31))) ||| ((mf_RiscHartModel_signed ((mf_RiscHartModel_bit a1 12 1 5) ||| (mf_RiscHartModel_part a1 2 5)) 6) <<< (12 &&& 31)))
        else
          if a2 = 4 then
            (mf_RiscHartModel_four a1 (mf_RiscHartModel_signed ((mf_RiscHartModel_bit a1 12 1 5) ||| (mf_RiscHartModel_part a1 2 5)) 6))
          else
            if a2 = 5 then
              (mf_RiscHartModel_link 0 (mf_RiscHartModel_signed ((((((((mf_RiscHartModel_bit a1 12 1 11) ||| (mf_RiscHartModel_bit a1 11 1 4)) ||| (mf_RiscHartModel_bit a1 9 2 8)) ||| (mf_RiscHartModel_bit a1 8 1 10)) ||| (mf_RiscHartModel_bit a1 7 1 6)) ||| (mf_RiscHartModel_bit a1 6 1 7)) ||| (mf_RiscHartModel_bit a1 3 3 1)) ||| (mf_RiscHartModel_bit a1 2 1 5)) 12))
            else
              (mf_RiscHartModel_branch (a2 - 6) (8 + (mf_RiscHartModel_part a1 7 3)) (mf_RiscHartModel_signed (((((mf_RiscHartModel_bit a1 12 1 8) ||| (mf_RiscHartModel_bit a1 10 2 3)) ||| (mf_RiscHartModel_bit a1 5 2 6)) ||| (mf_RiscHartModel_bit a1 3 2 1)) ||| (mf_RiscHartModel_bit a1 2 1 5)) 9))
def mf_RiscHartModel_two_t33 (a1 : Int32) (a2 : Int32) (v2 : Int32) (v3 : Int32) (v4 : Int32) : Int32 :=
  if a2 = 0 then
    if v4 = 0 then
      (mf_RiscHartModel_immediate 19 1 v2 v2 v3)
    else
      0
  else
    if a2 = 2 then
      if v2 = 0 then
        0
      else
        (mf_RiscHartModel_immediate 3 2 v2 2 (((mf_RiscHartModel_bit a1 12 1 5) ||| (mf_RiscHartModel_bit a1 4 3 2)) ||| (mf_RiscHartModel_bit a1 2 2 6)))
    else
      if a2 = 6 then
        (mf_RiscHartModel_store 2 v3 ((mf_RiscHartModel_bit a1 9 4 2) ||| (mf_RiscHartModel_bit a1 7 2 6)))
      else
        if a2 = 4 then
          if v3 ≤ 0 then
            if v2 = 0 then
              if v4 = 0 then
                0
              else
                1048691
            else
              if v4 = 0 then
                (mf_RiscHartModel_immediate 103 0 0 v2 0)
              else
                (mf_RiscHartModel_immediate 103 0 1 v2 0)
          else
            if v4 = 0 then
              (mf_RiscHartModel_registers 0 0 v2 0 v3)
            else
              (mf_RiscHartModel_registers 0 0 v2 v2 v3)
        else
          0
def mf_RiscHartModel_two (a1 : Int32) (a2 : Int32) : Int32 :=
  if (mf_RiscHartModel_part a1 12 1) = 1 then
    (mf_RiscHartModel_two_t33 a1 a2 (mf_RiscHartModel_part a1 7 5) (mf_RiscHartModel_part a1 2 5) 1)
  else
    (mf_RiscHartModel_two_t33 a1 a2 (mf_RiscHartModel_part a1 7 5) (mf_RiscHartModel_part a1 2 5) 0)
def mf_RiscHartModel_expand (a1 : Int32) : Int32 :=
  if (mf_RiscHartModel_part a1 0 2) = 0 then
    (mf_RiscHartModel_zero a1 (mf_RiscHartModel_part a1 13 3))
  else
    if (mf_RiscHartModel_part a1 0 2) = 1 then
      (mf_RiscHartModel_one a1 (mf_RiscHartModel_part a1 13 3))
    else
      (mf_RiscHartModel_two a1 (mf_RiscHartModel_part a1 13 3))
def mf_RiscHartModel_trap (st : MS) (a1 : Int32) (a2 : Int32) : Int32 × MS :=
  (0, (ms_set_met (ms_set_value (ms_set_cause st a1) a2) a1))
def mf_RiscHartModel_illegal (st : MS)  : Int32 × MS :=
  (mf_RiscHartModel_trap st 2 (ms_bits st))
def mf_RiscHartModel_may (st : MS) (a1 : Int32) (a2 : Int32) : Int32 :=
  if (mf_RiscHartModel_in a1 0 65535) = 0 then
    0
  else
    if ((ms_open st ((a1 / 1024)).toNatClampNeg) &&& a2) ≤ 0 then
      0
    else
      1
def mf_RiscHartModel_half (st : MS) (a1 : Int32) : Int32 :=
  ((ms_bytes st (a1).toNatClampNeg) ||| ((ms_bytes st ((a1 + 1)).toNatClampNeg) <<< (8 &&& 31)))
def mf_RiscHartModel_fetches (st : MS) (a1 : Int32) : Int32 :=
  if (mf_RiscHartModel_may st a1 4) = 0 then
    0
  else
    if (mf_RiscHartModel_may st (a1 + 1) 4) = 0 then
      0
    else
      1
def mf_RiscHartModel_give (st : MS) (a1 : Int32) (a2 : Int32) : MS :=
  if (ms_met st) = 0 then
    if a1 ≤ 0 then
      st
    else
      (ms_set_x st a1 a2)
  else
    st
def mf_RiscHartModel_decide_t106 (st : MS) (a1 : Int32) (a2 : Int32) (a3 : Int32) (a4 : Int32) (v5 : Int64) (v7 : Int64) (v9 : Int32) : MS :=
  if v9 = 0 then
    st
  else
    (ms_set_next st ((ms_place st) + (mf_RiscHartModel_signed ((((mf_RiscHartModel_bit a1 31 1 12) ||| (mf_RiscHartModel_bit a1 7 1 11)) ||| (mf_RiscHartModel_bit a1 25 6 5)) ||| (mf_RiscHartModel_bit a1 8 4 1)) 13)))
def mf_RiscHartModel_decide_t87 (st : MS) (a1 : Int32) (a2 : Int32) (a3 : Int32) (a4 : Int32) (v5 : Int64) (v7 : Int64) (v9 : Int32) : MS :=
  if (a2 &&& 1) = 1 then
    if v9 = 0 then
      (mf_RiscHartModel_decide_t106 st a1 a2 a3 a4 v5 v7 1)
    else
      (mf_RiscHartModel_decide_t106 st a1 a2 a3 a4 v5 v7 0)
  else
    (mf_RiscHartModel_decide_t106 st a1 a2 a3 a4 v5 v7 v9)
def mf_RiscHartModel_decide (st : MS) (a1 : Int32) (a2 : Int32) (a3 : Int32) (a4 : Int32) : MS :=
  if a2 = 2 then
    (mf_RiscHartModel_illegal st).2
  else
    if a2 = 3 then
      (mf_RiscHartModel_illegal st).2
    else
      if 2 ≤ a2 then
        if 6 ≤ a2 then
          if 0 ≤ (lg_cmp (a3.toInt64 &&& 4294967295) (a4.toInt64 &&& 4294967295)) then
            (mf_RiscHartModel_decide_t87 st a1 a2 a3 a4 (a3.toInt64 &&& 4294967295) (a4.toInt64 &&& 4294967295) 0)
          else
            (mf_RiscHartModel_decide_t87 st a1 a2 a3 a4 (a3.toInt64 &&& 4294967295) (a4.toInt64 &&& 4294967295) 1)
        else
          if a4 ≤ a3 then
            (mf_RiscHartModel_decide_t87 st a1 a2 a3 a4 (a3.toInt64 &&& 4294967295) (a4.toInt64 &&& 4294967295) 0)
          else
            (mf_RiscHartModel_decide_t87 st a1 a2 a3 a4 (a3.toInt64 &&& 4294967295) (a4.toInt64 &&& 4294967295) 1)
      else
        if a3 = a4 then
          (mf_RiscHartModel_decide_t87 st a1 a2 a3 a4 (a3.toInt64 &&& 4294967295) (a4.toInt64 &&& 4294967295) 1)
        else
          (mf_RiscHartModel_decide_t87 st a1 a2 a3 a4 (a3.toInt64 &&& 4294967295) (a4.toInt64 &&& 4294967295) 0)
def mf_RiscHartModel_load (st : MS) (a1 : Int32) (a2 : Int32) : Int32 × MS :=
  if a1 = 3 then
    (mf_RiscHartModel_illegal st)
  else
    if a1 ≤ 5 then
      if (a2 - a2 / ((1 : Int32) <<< ((a1 &&& 3) &&& 31)) * ((1 : Int32) <<< ((a1 &&& 3) &&& 31))) = 0 then
        if (mf_RiscHartModel_may st a2 1) = 0 then
          (mf_RiscHartModel_trap st 6 a2)
        else
          if ((1 : Int32) <<< ((a1 &&& 3) &&& 31)) ≤ 0 then
            if 2 ≤ a1 then
              (0, st)
            else
              ((mf_RiscHartModel_signed 0 (8 * ((1 : Int32) <<< ((a1 &&& 3) &&& 31)))), st)
          else
            if ((1 : Int32) <<< ((a1 &&& 3) &&& 31)) ≤ 1 then
              if 2 ≤ a1 then
                (((0 : Int32) ||| ((ms_bytes st ((a2 + 0)).toNatClampNeg) <<< (((8 : Int32) * 0) &&& 31))), st)
              else
                ((mf_RiscHartModel_signed ((0 : Int32) ||| ((ms_bytes st ((a2 + 0)).toNatClampNeg) <<< (((8 : Int32) * 0) &&& 31))) (8 * ((1 : Int32) <<< ((a1 &&& 3) &&& 31)))), st)
            else
              if ((1 : Int32) <<< ((a1 &&& 3) &&& 31)) ≤ 2 then
                if 2 ≤ a1 then
                  ((((0 : Int32) ||| ((ms_bytes st ((a2 + 0)).toNatClampNeg) <<< (((8 : Int32) * 0) &&& 31))) ||| ((ms_bytes st ((a2 + 1)).toNatClampNeg) <<< (((8 : Int32) * 1) &&& 31))), st)
                else
                  ((mf_RiscHartModel_signed (((0 : Int32) ||| ((ms_bytes st ((a2 + 0)).toNatClampNeg) <<< (((8 : Int32) * 0) &&& 31))) ||| ((ms_bytes st ((a2 + 1)).toNatClampNeg) <<< (((8 : Int32) * 1) &&& 31))) (8 * ((1 : Int32) <<< ((a1 &&& 3) &&& 31)))), st)
              else
                if ((1 : Int32) <<< ((a1 &&& 3) &&& 31)) ≤ 3 then
                  if 2 ≤ a1 then
                    (((((0 : Int32) ||| ((ms_bytes st ((a2 + 0)).toNatClampNeg) <<< (((8 : Int32) * 0) &&& 31))) ||| ((ms_bytes st ((a2 + 1)).toNatClampNeg) <<< (((8 : Int32) * 1) &&& 31))) ||| ((ms_bytes st ((a2 + 2)).toNatClampNeg) <<< (((8 : Int32) * 2) &&& 31))), st)
                  else
                    ((mf_RiscHartModel_signed ((((0 : Int32) ||| ((ms_bytes st ((a2 + 0)).toNatClampNeg) <<< (((8 : Int32) * 0) &&& 31))) ||| ((ms_bytes st ((a2 + 1)).toNatClampNeg) <<< (((8 : Int32) * 1) &&& 31))) ||| ((ms_bytes st ((a2 + 2)).toNatClampNeg) <<< (((8 : Int32) * 2) &&& 31))) (8 * ((1 : Int32) <<< ((a1 &&& 3) &&& 31)))), st)
                else
                  if ((1 : Int32) <<< ((a1 &&& 3) &&& 31)) ≤ 4 then
                    if 2 ≤ a1 then
                      ((((((0 : Int32) ||| ((ms_bytes st ((a2 + 0)).toNatClampNeg) <<< (((8 : Int32) * 0) &&& 31))) ||| ((ms_bytes st ((a2 + 1)).toNatClampNeg) <<< (((8 : Int32) * 1) &&& 31))) ||| ((ms_bytes st ((a2 + 2)).toNatClampNeg) <<< (((8 : Int32) * 2) &&& 31))) ||| ((ms_bytes st ((a2 + 3)).toNatClampNeg) <<< (((8 : Int32) * 3) &&& 31))), st)
                    else
                      ((mf_RiscHartModel_signed (((((0 : Int32) ||| ((ms_bytes st ((a2 + 0)).toNatClampNeg) <<< (((8 : Int32) * 0) &&& 31))) ||| ((ms_bytes st ((a2 + 1)).toNatClampNeg) <<< (((8 : Int32) * 1) &&& 31))) ||| ((ms_bytes st ((a2 + 2)).toNatClampNeg) <<< (((8 : Int32) * 2) &&& 31))) ||| ((ms_bytes st ((a2 + 3)).toNatClampNeg) <<< (((8 : Int32) * 3) &&& 31))) (8 * ((1 : Int32) <<< ((a1 &&& 3) &&& 31)))), st)
                  else
                    if ((1 : Int32) <<< ((a1 &&& 3) &&& 31)) ≤ 5 then
                      if 2 ≤ a1 then
                        (((((((0 : Int32) ||| ((ms_bytes st ((a2 + 0)).toNatClampNeg) <<< (((8 : Int32) * 0) &&& 31))) ||| ((ms_bytes st ((a2 + 1)).toNatClampNeg) <<< (((8 : Int32) * 1) &&& 31))) ||| ((ms_bytes st ((a2 + 2)).toNatClampNeg) <<< (((8 : Int32) * 2) &&& 31))) ||| ((ms_bytes st ((a2 + 3)).toNatClampNeg) <<< (((8 : Int32) * 3) &&& 31))) ||| ((ms_bytes st ((a2 + 4)).toNatClampNeg) <<< (((8 : Int32) * 4) &&& 31))), st)
                      else
                        ((mf_RiscHartModel_signed ((((((0 : Int32) ||| ((ms_bytes st ((a2 + 0)).toNatClampNeg) <<< (((8 : Int32) * 0) &&& 31))) ||| ((ms_bytes st ((a2 + 1)).toNatClampNeg) <<< (((8 : Int32) * 1) &&& 31))) ||| ((ms_bytes st ((a2 + 2)).toNatClampNeg) <<< (((8 : Int32) * 2) &&& 31))) ||| ((ms_bytes st ((a2 + 3)).toNatClampNeg) <<< (((8 : Int32) * 3) &&& 31))) ||| ((ms_bytes st ((a2 + 4)).toNatClampNeg) <<< (((8 : Int32) * 4) &&& 31))) (8 * ((1 : Int32) <<< ((a1 &&& 3) &&& 31)))), st)
                    else
                      if ((1 : Int32) <<< ((a1 &&& 3) &&& 31)) ≤ 6 then
                        if 2 ≤ a1 then
                          ((((((((0 : Int32) ||| ((ms_bytes st ((a2 + 0)).toNatClampNeg) <<< (((8 : Int32) * 0) &&& 31))) ||| ((ms_bytes st ((a2 + 1)).toNatClampNeg) <<< (((8 : Int32) * 1) &&& 31))) ||| ((ms_bytes st ((a2 + 2)).toNatClampNeg) <<< (((8 : Int32) * 2) &&& 31))) ||| ((ms_bytes st ((a2 + 3)).toNatClampNeg) <<< (((8 : Int32) * 3) &&& 31))) ||| ((ms_bytes st ((a2 + 4)).toNatClampNeg) <<< (((8 : Int32) * 4) &&& 31))) ||| ((ms_bytes st ((a2 + 5)).toNatClampNeg) <<< (((8 : Int32) * 5) &&& 31))), st)
                        else
                          ((mf_RiscHartModel_signed (((((((0 : Int32) ||| ((ms_bytes st ((a2 + 0)).toNatClampNeg) <<< (((8 : Int32) * 0) &&& 31))) ||| ((ms_bytes st ((a2 + 1)).toNatClampNeg) <<< (((8 : Int32) * 1) &&& 31))) ||| ((ms_bytes st ((a2 + 2)).toNatClampNeg) <<< (((8 : Int32) * 2) &&& 31))) ||| ((ms_bytes st ((a2 + 3)).toNatClampNeg) <<< (((8 : Int32) * 3) &&& 31))) ||| ((ms_bytes st ((a2 + 4)).toNatClampNeg) <<< (((8 : Int32) * 4) &&& 31))) ||| ((ms_bytes st ((a2 + 5)).toNatClampNeg) <<< (((8 : Int32) * 5) &&& 31))) (8 * ((1 : Int32) <<< ((a1 &&& 3) &&& 31)))), st)
                      else
                        if ((1 : Int32) <<< ((a1 &&& 3) &&& 31)) ≤ 7 then
                          if 2 ≤ a1 then
                            (((((((((0 : Int32) ||| ((ms_bytes st ((a2 + 0)).toNatClampNeg) <<< (((8 : Int32) * 0) &&& 31))) ||| ((ms_bytes st ((a2 + 1)).toNatClampNeg) <<< (((8 : Int32) * 1) &&& 31))) ||| ((ms_bytes st ((a2 + 2)).toNatClampNeg) <<< (((8 : Int32) * 2) &&& 31))) ||| ((ms_bytes st ((a2 + 3)).toNatClampNeg) <<< (((8 : Int32) * 3) &&& 31))) ||| ((ms_bytes st ((a2 + 4)).toNatClampNeg) <<< (((8 : Int32) * 4) &&& 31))) ||| ((ms_bytes st ((a2 + 5)).toNatClampNeg) <<< (((8 : Int32) * 5) &&& 31))) ||| ((ms_bytes st ((a2 + 6)).toNatClampNeg) <<< (((8 : Int32) * 6) &&& 31))), st)
                          else
                            ((mf_RiscHartModel_signed ((((((((0 : Int32) ||| ((ms_bytes st ((a2 + 0)).toNatClampNeg) <<< (((8 : Int32) * 0) &&& 31))) ||| ((ms_bytes st ((a2 + 1)).toNatClampNeg) <<< (((8 : Int32) * 1) &&& 31))) ||| ((ms_bytes st ((a2 + 2)).toNatClampNeg) <<< (((8 : Int32) * 2) &&& 31))) ||| ((ms_bytes st ((a2 + 3)).toNatClampNeg) <<< (((8 : Int32) * 3) &&& 31))) ||| ((ms_bytes st ((a2 + 4)).toNatClampNeg) <<< (((8 : Int32) * 4) &&& 31))) ||| ((ms_bytes st ((a2 + 5)).toNatClampNeg) <<< (((8 : Int32) * 5) &&& 31))) ||| ((ms_bytes st ((a2 + 6)).toNatClampNeg) <<< (((8 : Int32) * 6) &&& 31))) (8 * ((1 : Int32) <<< ((a1 &&& 3) &&& 31)))), st)
                        else
                          if 2 ≤ a1 then
                            ((((((((((0 : Int32) ||| ((ms_bytes st ((a2 + 0)).toNatClampNeg) <<< (((8 : Int32) * 0) &&& 31))) ||| ((ms_bytes st ((a2 + 1)).toNatClampNeg) <<< (((8 : Int32) * 1) &&& 31))) ||| ((ms_bytes st ((a2 + 2)).toNatClampNeg) <<< (((8 : Int32) * 2) &&& 31))) ||| ((ms_bytes st ((a2 + 3)).toNatClampNeg) <<< (((8 : Int32) * 3) &&& 31))) ||| ((ms_bytes st ((a2 + 4)).toNatClampNeg) <<< (((8 : Int32) * 4) &&& 31))) ||| ((ms_bytes st ((a2 + 5)).toNatClampNeg) <<< (((8 : Int32) * 5) &&& 31))) ||| ((ms_bytes st ((a2 + 6)).toNatClampNeg) <<< (((8 : Int32) * 6) &&& 31))) ||| ((ms_bytes st ((a2 + 7)).toNatClampNeg) <<< (((8 : Int32) * 7) &&& 31))), st)
                          else
                            ((mf_RiscHartModel_signed (((((((((0 : Int32) ||| ((ms_bytes st ((a2 + 0)).toNatClampNeg) <<< (((8 : Int32) * 0) &&& 31))) ||| ((ms_bytes st ((a2 + 1)).toNatClampNeg) <<< (((8 : Int32) * 1) &&& 31))) ||| ((ms_bytes st ((a2 + 2)).toNatClampNeg) <<< (((8 : Int32) * 2) &&& 31))) ||| ((ms_bytes st ((a2 + 3)).toNatClampNeg) <<< (((8 : Int32) * 3) &&& 31))) ||| ((ms_bytes st ((a2 + 4)).toNatClampNeg) <<< (((8 : Int32) * 4) &&& 31))) ||| ((ms_bytes st ((a2 + 5)).toNatClampNeg) <<< (((8 : Int32) * 5) &&& 31))) ||| ((ms_bytes st ((a2 + 6)).toNatClampNeg) <<< (((8 : Int32) * 6) &&& 31))) ||| ((ms_bytes st ((a2 + 7)).toNatClampNeg) <<< (((8 : Int32) * 7) &&& 31))) (8 * ((1 : Int32) <<< ((a1 &&& 3) &&& 31)))), st)
      else
        (mf_RiscHartModel_trap st 5 a2)
    else
      (mf_RiscHartModel_illegal st)
def mf_RiscHartModel_put (st : MS) (a1 : Int32) (a2 : Int32) (a3 : Int32) : MS :=
  if a1 ≤ 2 then
    if (a2 - a2 / ((1 : Int32) <<< ((a1 &&& 3) &&& 31)) * ((1 : Int32) <<< ((a1 &&& 3) &&& 31))) = 0 then
      if (mf_RiscHartModel_may st a2 2) = 0 then
        (mf_RiscHartModel_trap st 7 a2).2
      else
        if ((1 : Int32) <<< ((a1 &&& 3) &&& 31)) ≤ 0 then
          st
        else
          if ((1 : Int32) <<< ((a1 &&& 3) &&& 31)) ≤ 1 then
            (mf_RiscHartModel_write st (a2 + 0) (a3 >>> (((8 : Int32) * 0) &&& 31)))
          else
            if ((1 : Int32) <<< ((a1 &&& 3) &&& 31)) ≤ 2 then
              (mf_RiscHartModel_write (mf_RiscHartModel_write st (a2 + 0) (a3 >>> (((8 : Int32) * 0) &&& 31))) (a2 + 1) (a3 >>> (((8 : Int32) * 1) &&& 31)))
            else
              if ((1 : Int32) <<< ((a1 &&& 3) &&& 31)) ≤ 3 then
                (mf_RiscHartModel_write (mf_RiscHartModel_write (mf_RiscHartModel_write st (a2 + 0) (a3 >>> (((8 : Int32) * 0) &&& 31))) (a2 + 1) (a3 >>> (((8 : Int32) * 1) &&& 31))) (a2 + 2) (a3 >>> (((8 : Int32) * 2) &&& 31)))
              else
                if ((1 : Int32) <<< ((a1 &&& 3) &&& 31)) ≤ 4 then
                  (mf_RiscHartModel_write (mf_RiscHartModel_write (mf_RiscHartModel_write (mf_RiscHartModel_write st (a2 + 0) (a3 >>> (((8 : Int32) * 0) &&& 31))) (a2 + 1) (a3 >>> (((8 : Int32) * 1) &&& 31))) (a2 + 2) (a3 >>> (((8 : Int32) * 2) &&& 31))) (a2 + 3) (a3 >>> (((8 : Int32) * 3) &&& 31)))
                else
                  if ((1 : Int32) <<< ((a1 &&& 3) &&& 31)) ≤ 5 then
                    (mf_RiscHartModel_write (mf_RiscHartModel_write (mf_RiscHartModel_write (mf_RiscHartModel_write (mf_RiscHartModel_write st (a2 + 0) (a3 >>> (((8 : Int32) * 0) &&& 31))) (a2 + 1) (a3 >>> (((8 : Int32) * 1) &&& 31))) (a2 + 2) (a3 >>> (((8 : Int32) * 2) &&& 31))) (a2 + 3) (a3 >>> (((8 : Int32) * 3) &&& 31))) (a2 + 4) (a3 >>> (((8 : Int32) * 4) &&& 31)))
                  else
                    if ((1 : Int32) <<< ((a1 &&& 3) &&& 31)) ≤ 6 then
                      (mf_RiscHartModel_write (mf_RiscHartModel_write (mf_RiscHartModel_write (mf_RiscHartModel_write (mf_RiscHartModel_write (mf_RiscHartModel_write st (a2 + 0) (a3 >>> (((8 : Int32) * 0) &&& 31))) (a2 + 1) (a3 >>> (((8 : Int32) * 1) &&& 31))) (a2 + 2) (a3 >>> (((8 : Int32) * 2) &&& 31))) (a2 + 3) (a3 >>> (((8 : Int32) * 3) &&& 31))) (a2 + 4) (a3 >>> (((8 : Int32) * 4) &&& 31))) (a2 + 5) (a3 >>> (((8 : Int32) * 5) &&& 31)))
                    else
                      if ((1 : Int32) <<< ((a1 &&& 3) &&& 31)) ≤ 7 then
                        (mf_RiscHartModel_write (mf_RiscHartModel_write (mf_RiscHartModel_write (mf_RiscHartModel_write (mf_RiscHartModel_write (mf_RiscHartModel_write (mf_RiscHartModel_write st (a2 + 0) (a3 >>> (((8 : Int32) * 0) &&& 31))) (a2 + 1) (a3 >>> (((8 : Int32) * 1) &&& 31))) (a2 + 2) (a3 >>> (((8 : Int32) * 2) &&& 31))) (a2 + 3) (a3 >>> (((8 : Int32) * 3) &&& 31))) (a2 + 4) (a3 >>> (((8 : Int32) * 4) &&& 31))) (a2 + 5) (a3 >>> (((8 : Int32) * 5) &&& 31))) (a2 + 6) (a3 >>> (((8 : Int32) * 6) &&& 31)))
                      else
                        (mf_RiscHartModel_write (mf_RiscHartModel_write (mf_RiscHartModel_write (mf_RiscHartModel_write (mf_RiscHartModel_write (mf_RiscHartModel_write (mf_RiscHartModel_write (mf_RiscHartModel_write st (a2 + 0) (a3 >>> (((8 : Int32) * 0) &&& 31))) (a2 + 1) (a3 >>> (((8 : Int32) * 1) &&& 31))) (a2 + 2) (a3 >>> (((8 : Int32) * 2) &&& 31))) (a2 + 3) (a3 >>> (((8 : Int32) * 3) &&& 31))) (a2 + 4) (a3 >>> (((8 : Int32) * 4) &&& 31))) (a2 + 5) (a3 >>> (((8 : Int32) * 5) &&& 31))) (a2 + 6) (a3 >>> (((8 : Int32) * 6) &&& 31))) (a2 + 7) (a3 >>> (((8 : Int32) * 7) &&& 31)))
    else
      (mf_RiscHartModel_trap st 5 a2).2
  else
    (mf_RiscHartModel_illegal st).2
def mf_RiscHartModel_shifted (st : MS) (a1 : Int32) (a2 : Int32) (a3 : Int32) (a4 : Int32) : Int32 × MS :=
  if a1 = 1 then
    if a2 = 0 then
      ((a3 <<< (a4 &&& 31)), st)
    else
      (mf_RiscHartModel_illegal st)
  else
    if a1 = 5 then
      if a2 = 0 then
        ((ja_ushr a3 a4), st)
      else
        if a2 = 32 then
          ((a3 >>> (a4 &&& 31)), st)
        else
          (mf_RiscHartModel_illegal st)
    else
      (mf_RiscHartModel_illegal st)
def mf_RiscHartModel_reckoned (a1 : Int32) (a2 : Int32) (a3 : Int32) : Int32 :=
  if a1 = 0 then
    (a2 + a3)
  else
    if a1 = 2 then
      if a3 ≤ a2 then
        0
      else
        1
    else
      if a1 = 3 then
        if 0 ≤ (lg_cmp (a2.toInt64 &&& 4294967295) (a3.toInt64 &&& 4294967295)) then
          0
        else
          1
      else
        if a1 = 4 then
          (a2 ^^^ a3)
        else
          if a1 = 6 then
            (a2 ||| a3)
          else
            (a2 &&& a3)
def mf_RiscHartModel_multiplied (a1 : Int32) (a2 : Int32) (a3 : Int32) : Int32 :=
  if a1 = 0 then
    (a2 * a3)
  else
    if a1 = 1 then
      (ja_lshr (a2.toInt64 * a3.toInt64) 32).toInt32
    else
      if a1 = 2 then
        (ja_lshr (a2.toInt64 * (a3.toInt64 &&& 4294967295)) 32).toInt32
      else
        if a1 = 3 then
          (ja_lushr ((a2.toInt64 &&& 4294967295) * (a3.toInt64 &&& 4294967295)) 32).toInt32
        else
          if a1 = 4 then
            if a3 = 0 then
              (-1)
            else
              (a2.toInt64 / a3.toInt64).toInt32
          else
            if a1 = 5 then
              if a3 = 0 then
                (-1)
              else
                ((a2.toInt64 &&& 4294967295) / (a3.toInt64 &&& 4294967295)).toInt32
            else
              if a1 = 6 then
                if a3 = 0 then
                  a2
                else
                  (a2.toInt64 - a2.toInt64 / a3.toInt64 * a3.toInt64).toInt32
              else
                if a3 = 0 then
                  a2
                else
                  ((a2.toInt64 &&& 4294967295) - (a2.toInt64 &&& 4294967295) / (a3.toInt64 &&& 4294967295) * (a3.toInt64 &&& 4294967295)).toInt32
def mf_RiscHartModel_changed_t41 (a1 : Int32) (a2 : Int32) (a3 : Int32) (v3 : Int32) : Int32 :=
  if a1 = 0 then
    (a2 + a3)
  else
    if a1 = 1 then
      a3
    else
      if a1 = 4 then
        (a2 ^^^ a3)
      else
        if a1 = 8 then
          (a2 ||| a3)
        else
          if a1 = 12 then
            (a2 &&& a3)
          else
            if a1 = 16 then
              if v3 = 0 then
                a3
              else
                a2
            else
              if a1 = 24 then
                if v3 = 0 then
                  a3
                else
                  a2
              else
                if v3 = 0 then
                  a2
                else
                  a3
def mf_RiscHartModel_changed (a1 : Int32) (a2 : Int32) (a3 : Int32) : Int32 :=
  if 24 ≤ a1 then
    if 0 ≤ (lg_cmp (a2.toInt64 &&& 4294967295) (a3.toInt64 &&& 4294967295)) then
      (mf_RiscHartModel_changed_t41 a1 a2 a3 0)
    else
      (mf_RiscHartModel_changed_t41 a1 a2 a3 1)
  else
    if a3 ≤ a2 then
      (mf_RiscHartModel_changed_t41 a1 a2 a3 0)
    else
      (mf_RiscHartModel_changed_t41 a1 a2 a3 1)
def mf_RiscHartModel_atomic_t186 (st : MS) (a1 : Int32) (a2 : Int32) (a3 : Int32) (a4 : Int32) (a5 : Int32) (v6 : Int32) (v7 : Int32) (v8 : Int32) : Int32 × MS :=
  if a3 = 3 then
    if v8 = 0 then
      (1, (ms_set_reserved st (-1)))
    else
      (0, (mf_RiscHartModel_put (ms_set_reserved st (-1)) 2 a4 a5))
  else
    (v7, (mf_RiscHartModel_put st 2 a4 (mf_RiscHartModel_changed a3 v7 a5)))
def mf_RiscHartModel_atomic_t48 (st : MS) (a1 : Int32) (a2 : Int32) (a3 : Int32) (a4 : Int32) (a5 : Int32) (v6 : Int32) : Int32 × MS :=
  if a2 = 2 then
    if v6 = 0 then
      (mf_RiscHartModel_illegal st)
    else
      if a3 = 2 then
        if (mf_RiscHartModel_part a1 20 5) ≤ 0 then
          if (a4 - a4 / 4 * 4) = 0 then
            if (mf_RiscHartModel_may st a4 1) = 0 then
              (mf_RiscHartModel_trap st 6 a4)
            else
              (((mf_RiscHartModel_half st a4) ||| ((mf_RiscHartModel_half st (a4 + 2)) <<< (16 &&& 31))), (ms_set_reserved st a4))
          else
            (mf_RiscHartModel_trap st 5 a4)
        else
          (mf_RiscHartModel_illegal st)
      else
        if (a4 - a4 / 4 * 4) = 0 then
          if (mf_RiscHartModel_may st a4 2) = 0 then
            (mf_RiscHartModel_trap st 7 a4)
          else
            if (mf_RiscHartModel_may st a4 1) = 0 then
              (mf_RiscHartModel_trap st 6 a4)
            else
              if (ms_reserved st) = a4 then
                (mf_RiscHartModel_atomic_t186 st a1 a2 a3 a4 a5 v6 ((mf_RiscHartModel_half st a4) ||| ((mf_RiscHartModel_half st (a4 + 2)) <<< (16 &&& 31))) 1)
              else
                (mf_RiscHartModel_atomic_t186 st a1 a2 a3 a4 a5 v6 ((mf_RiscHartModel_half st a4) ||| ((mf_RiscHartModel_half st (a4 + 2)) <<< (16 &&& 31))) 0)
        else
          (mf_RiscHartModel_trap st 5 a4)
  else
    (mf_RiscHartModel_illegal st)
def mf_RiscHartModel_atomic (st : MS) (a1 : Int32) (a2 : Int32) (a3 : Int32) (a4 : Int32) (a5 : Int32) : Int32 × MS :=
  if a3 < 5 then
    (mf_RiscHartModel_atomic_t48 st a1 a2 a3 a4 a5 1)
  else
    if a3 = 8 then
      (mf_RiscHartModel_atomic_t48 st a1 a2 a3 a4 a5 1)
    else
      if a3 = 12 then
        (mf_RiscHartModel_atomic_t48 st a1 a2 a3 a4 a5 1)
      else
        if a3 = 16 then
          (mf_RiscHartModel_atomic_t48 st a1 a2 a3 a4 a5 1)
        else
          if a3 = 20 then
            (mf_RiscHartModel_atomic_t48 st a1 a2 a3 a4 a5 1)
          else
            if a3 = 24 then
              (mf_RiscHartModel_atomic_t48 st a1 a2 a3 a4 a5 1)
            else
              if a3 = 28 then
                (mf_RiscHartModel_atomic_t48 st a1 a2 a3 a4 a5 1)
              else
                (mf_RiscHartModel_atomic_t48 st a1 a2 a3 a4 a5 0)
def mf_RiscHartModel_system_t130 (st : MS) (a1 : Int32) (a2 : Int32) (v3 : Int32) (v4 : Int32) (v5 : Int64) : Int32 × MS :=
  if v4 = 0 then
    (mf_RiscHartModel_illegal st)
  else
    if 3200 ≤ v3 then
      ((ja_lshr v5 32).toInt32, st)
    else
      (v5.toInt32, st)
def mf_RiscHartModel_system_t110 (st : MS) (a1 : Int32) (a2 : Int32) (v3 : Int32) (v4 : Int32) : Int32 × MS :=
  if (v3 &&& 3) = 1 then
    (mf_RiscHartModel_system_t130 st a1 a2 v3 v4 (ms_clock st))
  else
    (mf_RiscHartModel_system_t130 st a1 a2 v3 v4 (ms_retired st))
def mf_RiscHartModel_system (st : MS) (a1 : Int32) (a2 : Int32) : Int32 × MS :=
  if a1 = 115 then
    (mf_RiscHartModel_trap st 3 0)
  else
    if a1 = 1048691 then
      (mf_RiscHartModel_trap st 4 0)
    else
      if a2 < 2 then
        (mf_RiscHartModel_illegal st)
      else
        if a2 = 4 then
          (mf_RiscHartModel_illegal st)
        else
          if a2 = 5 then
            (mf_RiscHartModel_illegal st)
          else
            if (mf_RiscHartModel_part a1 15 5) ≤ 0 then
              if (ja_ushr a1 20) = 3072 then
                (mf_RiscHartModel_system_t110 st a1 a2 (ja_ushr a1 20) 1)
              else
                if (ja_ushr a1 20) = 3073 then
                  (mf_RiscHartModel_system_t110 st a1 a2 (ja_ushr a1 20) 1)
                else
                  if (ja_ushr a1 20) = 3074 then
                    (mf_RiscHartModel_system_t110 st a1 a2 (ja_ushr a1 20) 1)
                  else
                    if (ja_ushr a1 20) = 3200 then
                      (mf_RiscHartModel_system_t110 st a1 a2 (ja_ushr a1 20) 1)
                    else
                      if (ja_ushr a1 20) = 3201 then
                        (mf_RiscHartModel_system_t110 st a1 a2 (ja_ushr a1 20) 1)
                      else
                        if (ja_ushr a1 20) = 3202 then
                          (mf_RiscHartModel_system_t110 st a1 a2 (ja_ushr a1 20) 1)
                        else
                          (mf_RiscHartModel_system_t110 st a1 a2 (ja_ushr a1 20) 0)
            else
              (mf_RiscHartModel_illegal st)
def mf_RiscHartModel_carry (st : MS) (a1 : Int32) : MS :=
  if (mf_RiscHartModel_part a1 0 7) = 3 then
    (mf_RiscHartModel_give ((mf_RiscHartModel_load st (mf_RiscHartModel_part a1 12 3) ((ms_x st ((mf_RiscHartModel_part a1 15 5)).toNatClampNeg) + (a1 >>> (20 &&& 31)))).2) (mf_RiscHartModel_part a1 7 5) ((mf_RiscHartModel_load st (mf_RiscHartModel_part a1 12 3) ((ms_x st ((mf_RiscHartModel_part a1 15 5)).toNatClampNeg) + (a1 >>> (20 &&& 31)))).1))
  else
    if (mf_RiscHartModel_part a1 0 7) = 15 then
      if (mf_RiscHartModel_part a1 12 3) ≤ 1 then
        st
      else
        (mf_RiscHartModel_illegal st).2
    else
      if (mf_RiscHartModel_part a1 0 7) = 19 then
        if (mf_RiscHartModel_part a1 12 3) = 1 then
          (mf_RiscHartModel_give ((mf_RiscHartModel_shifted st (mf_RiscHartModel_part a1 12 3) (mf_RiscHartModel_part a1 25 7) (ms_x st ((mf_RiscHartModel_part a1 15 5)).toNatClampNeg) (mf_RiscHartModel_part a1 20 5)).2) (mf_RiscHartModel_part a1 7 5) ((mf_RiscHartModel_shifted st (mf_RiscHartModel_part a1 12 3) (mf_RiscHartModel_part a1 25 7) (ms_x st ((mf_RiscHartModel_part a1 15 5)).toNatClampNeg) (mf_RiscHartModel_part a1 20 5)).1))
        else
          if (mf_RiscHartModel_part a1 12 3) = 5 then
            (mf_RiscHartModel_give ((mf_RiscHartModel_shifted st (mf_RiscHartModel_part a1 12 3) (mf_RiscHartModel_part a1 25 7) (ms_x st ((mf_RiscHartModel_part a1 15 5)).toNatClampNeg) (mf_RiscHartModel_part a1 20 5)).2) (mf_RiscHartModel_part a1 7 5) ((mf_RiscHartModel_shifted st (mf_RiscHartModel_part a1 12 3) (mf_RiscHartModel_part a1 25 7) (ms_x st ((mf_RiscHartModel_part a1 15 5)).toNatClampNeg) (mf_RiscHartModel_part a1 20 5)).1))
          else
            (mf_RiscHartModel_give st (mf_RiscHartModel_part a1 7 5) (mf_RiscHartModel_reckoned (mf_RiscHartModel_part a1 12 3) (ms_x st ((mf_RiscHartModel_part a1 15 5)).toNatClampNeg) (a1 >>> (20 &&& 31))))
      else
        if (mf_RiscHartModel_part a1 0 7) = 23 then
          (mf_RiscHartModel_give st (mf_RiscHartModel_part a1 7 5) ((ms_place st) + (a1 &&& (-4096))))
        else
          if (mf_RiscHartModel_part a1 0 7) = 35 then
            (mf_RiscHartModel_put st (mf_RiscHartModel_part a1 12 3) ((ms_x st ((mf_RiscHartModel_part a1 15 5)).toNatClampNeg) + (((a1 >>> (20 &&& 31)) &&& (-32)) ||| (mf_RiscHartModel_part a1 7 5))) (ms_x st ((mf_RiscHartModel_part a1 20 5)).toNatClampNeg))
          else
            if (mf_RiscHartModel_part a1 0 7) = 47 then
              (mf_RiscHartModel_give ((mf_RiscHartModel_atomic st a1 (mf_RiscHartModel_part a1 12 3) ((mf_RiscHartModel_part a1 25 7) >>> (2 &&& 31)) (ms_x st ((mf_RiscHartModel_part a1 15 5)).toNatClampNeg) (ms_x st ((mf_RiscHartModel_part a1 20 5)).toNatClampNeg)).2) (mf_RiscHartModel_part a1 7 5) ((mf_RiscHartModel_atomic st a1 (mf_RiscHartModel_part a1 12 3) ((mf_RiscHartModel_part a1 25 7) >>> (2 &&& 31)) (ms_x st ((mf_RiscHartModel_part a1 15 5)).toNatClampNeg) (ms_x st ((mf_RiscHartModel_part a1 20 5)).toNatClampNeg)).1))
            else
              if (mf_RiscHartModel_part a1 0 7) = 51 then
                if (mf_RiscHartModel_part a1 25 7) = 1 then
                  (mf_RiscHartModel_give st (mf_RiscHartModel_part a1 7 5) (mf_RiscHartModel_multiplied (mf_RiscHartModel_part a1 12 3) (ms_x st ((mf_RiscHartModel_part a1 15 5)).toNatClampNeg) (ms_x st ((mf_RiscHartModel_part a1 20 5)).toNatClampNeg)))
                else
                  if (mf_RiscHartModel_part a1 25 7) = 0 then
                    if (mf_RiscHartModel_part a1 12 3) = 1 then
                      (mf_RiscHartModel_give ((mf_RiscHartModel_shifted st (mf_RiscHartModel_part a1 12 3) (mf_RiscHartModel_part a1 25 7) (ms_x st ((mf_RiscHartModel_part a1 15 5)).toNatClampNeg) ((ms_x st ((mf_RiscHartModel_part a1 20 5)).toNatClampNeg) &&& 31)).2) (mf_RiscHartModel_part a1 7 5) ((mf_RiscHartModel_shifted st (mf_RiscHartModel_part a1 12 3) (mf_RiscHartModel_part a1 25 7) (ms_x st ((mf_RiscHartModel_part a1 15 5)).toNatClampNeg) ((ms_x st ((mf_RiscHartModel_part a1 20 5)).toNatClampNeg) &&& 31)).1))
                    else
                      if (mf_RiscHartModel_part a1 12 3) = 5 then
                        (mf_RiscHartModel_give ((mf_RiscHartModel_shifted st (mf_RiscHartModel_part a1 12 3) (mf_RiscHartModel_part a1 25 7) (ms_x st ((mf_RiscHartModel_part a1 15 5)).toNatClampNeg) ((ms_x st ((mf_RiscHartModel_part a1 20 5)).toNatClampNeg) &&& 31)).2) (mf_RiscHartModel_part a1 7 5) ((mf_RiscHartModel_shifted st (mf_RiscHartModel_part a1 12 3) (mf_RiscHartModel_part a1 25 7) (ms_x st ((mf_RiscHartModel_part a1 15 5)).toNatClampNeg) ((ms_x st ((mf_RiscHartModel_part a1 20 5)).toNatClampNeg) &&& 31)).1))
                      else
                        (mf_RiscHartModel_give st (mf_RiscHartModel_part a1 7 5) (mf_RiscHartModel_reckoned (mf_RiscHartModel_part a1 12 3) (ms_x st ((mf_RiscHartModel_part a1 15 5)).toNatClampNeg) (ms_x st ((mf_RiscHartModel_part a1 20 5)).toNatClampNeg)))
                  else
                    if (mf_RiscHartModel_part a1 25 7) = 32 then
                      if (mf_RiscHartModel_part a1 12 3) = 0 then
                        (mf_RiscHartModel_give st (mf_RiscHartModel_part a1 7 5) ((ms_x st ((mf_RiscHartModel_part a1 15 5)).toNatClampNeg) - (ms_x st ((mf_RiscHartModel_part a1 20 5)).toNatClampNeg)))
                      else
                        (mf_RiscHartModel_give ((mf_RiscHartModel_shifted st (mf_RiscHartModel_part a1 12 3) (mf_RiscHartModel_part a1 25 7) (ms_x st ((mf_RiscHartModel_part a1 15 5)).toNatClampNeg) ((ms_x st ((mf_RiscHartModel_part a1 20 5)).toNatClampNeg) &&& 31)).2) (mf_RiscHartModel_part a1 7 5) ((mf_RiscHartModel_shifted st (mf_RiscHartModel_part a1 12 3) (mf_RiscHartModel_part a1 25 7) (ms_x st ((mf_RiscHartModel_part a1 15 5)).toNatClampNeg) ((ms_x st ((mf_RiscHartModel_part a1 20 5)).toNatClampNeg) &&& 31)).1))
                    else
                      (mf_RiscHartModel_give ((mf_RiscHartModel_shifted st (mf_RiscHartModel_part a1 12 3) (mf_RiscHartModel_part a1 25 7) (ms_x st ((mf_RiscHartModel_part a1 15 5)).toNatClampNeg) ((ms_x st ((mf_RiscHartModel_part a1 20 5)).toNatClampNeg) &&& 31)).2) (mf_RiscHartModel_part a1 7 5) ((mf_RiscHartModel_shifted st (mf_RiscHartModel_part a1 12 3) (mf_RiscHartModel_part a1 25 7) (ms_x st ((mf_RiscHartModel_part a1 15 5)).toNatClampNeg) ((ms_x st ((mf_RiscHartModel_part a1 20 5)).toNatClampNeg) &&& 31)).1))
              else
                if (mf_RiscHartModel_part a1 0 7) = 55 then
                  (mf_RiscHartModel_give st (mf_RiscHartModel_part a1 7 5) (a1 &&& (-4096)))
                else
                  if (mf_RiscHartModel_part a1 0 7) = 99 then
                    (mf_RiscHartModel_decide st a1 (mf_RiscHartModel_part a1 12 3) (ms_x st ((mf_RiscHartModel_part a1 15 5)).toNatClampNeg) (ms_x st ((mf_RiscHartModel_part a1 20 5)).toNatClampNeg))
                  else
                    if (mf_RiscHartModel_part a1 0 7) = 103 then
                      if (mf_RiscHartModel_part a1 12 3) = 0 then
                        (ms_set_next (mf_RiscHartModel_give st (mf_RiscHartModel_part a1 7 5) (ms_next st)) (((ms_x st ((mf_RiscHartModel_part a1 15 5)).toNatClampNeg) + (a1 >>> (20 &&& 31))) &&& (-2)))
                      else
                        (ms_set_next (mf_RiscHartModel_give ((mf_RiscHartModel_illegal st).2) (mf_RiscHartModel_part a1 7 5) (ms_next ((mf_RiscHartModel_illegal st).2))) (((ms_x st ((mf_RiscHartModel_part a1 15 5)).toNatClampNeg) + (a1 >>> (20 &&& 31))) &&& (-2)))
                    else
                      if (mf_RiscHartModel_part a1 0 7) = 111 then
                        (ms_set_next (mf_RiscHartModel_give st (mf_RiscHartModel_part a1 7 5) (ms_next st)) ((ms_place (mf_RiscHartModel_give st (mf_RiscHartModel_part a1 7 5) (ms_next st))) + (mf_RiscHartModel_signed ((((mf_RiscHartModel_bit a1 31 1 20) ||| (mf_RiscHartModel_bit a1 12 8 12)) ||| (mf_RiscHartModel_bit a1 20 1 11)) ||| (mf_RiscHartModel_bit a1 21 10 1)) 21)))
                      else
                        if (mf_RiscHartModel_part a1 0 7) = 115 then
                          (mf_RiscHartModel_give ((mf_RiscHartModel_system st a1 (mf_RiscHartModel_part a1 12 3)).2) (mf_RiscHartModel_part a1 7 5) ((mf_RiscHartModel_system st a1 (mf_RiscHartModel_part a1 12 3)).1))
                        else
                          (mf_RiscHartModel_illegal st).2
def mf_RiscHartModel_step_t203 (st1 : MS)  (v1 : Int32) : Int32 × MS :=
  if (ms_met st1) ≤ 0 then
    (0, (ms_set_retired (ms_set_place st1 (ms_next st1)) ((ms_retired st1) + 1)))
  else
    ((ms_met st1), st1)
def mf_RiscHartModel_step_t186 (st1 : MS)  (v1 : Int32) : Int32 × MS :=
  if v1 = 0 then
    (mf_RiscHartModel_step_t203 ((mf_RiscHartModel_illegal st1).2)  v1)
  else
    (mf_RiscHartModel_step_t203 (mf_RiscHartModel_carry st1 v1)  v1)
def mf_RiscHartModel_step_t150 (st1 : MS)   : Int32 × MS :=
  if (ms_length st1) = 4 then
    (mf_RiscHartModel_step_t186 (ms_set_next st1 ((ms_place st1) + (ms_length st1)))  (ms_bits st1))
  else
    (mf_RiscHartModel_step_t186 (ms_set_next st1 ((ms_place st1) + (ms_length st1)))  (mf_RiscHartModel_expand (ms_bits st1)))
def mf_RiscHartModel_step_t10 (st1 : MS)   : Int32 × MS :=
  if ((ms_place st1) &&& 1) = 1 then
    ((ms_met ((mf_RiscHartModel_trap st1 1 (ms_place st1)).2)), (mf_RiscHartModel_trap st1 1 (ms_place st1)).2)
  else
    if (mf_RiscHartModel_fetches st1 (ms_place st1)) = 0 then
      ((ms_met ((mf_RiscHartModel_trap st1 1 (ms_place st1)).2)), (mf_RiscHartModel_trap st1 1 (ms_place st1)).2)
    else
      if ((mf_RiscHartModel_half st1 (ms_place st1)) &&& 3) = 3 then
        if (mf_RiscHartModel_fetches (ms_set_length (ms_set_bits st1 (mf_RiscHartModel_half st1 (ms_place st1))) 4) ((ms_place st1) + 2)) = 0 then
          ((ms_met ((mf_RiscHartModel_trap (ms_set_length (ms_set_bits st1 (mf_RiscHartModel_half st1 (ms_place st1))) 4) 1 (ms_place st1)).2)), (mf_RiscHartModel_trap (ms_set_length (ms_set_bits st1 (mf_RiscHartModel_half st1 (ms_place st1))) 4) 1 (ms_place st1)).2)
        else
          (mf_RiscHartModel_step_t150 (ms_set_bits (ms_set_length (ms_set_bits st1 (mf_RiscHartModel_half st1 (ms_place st1))) 4) ((mf_RiscHartModel_half st1 (ms_place st1)) ||| ((mf_RiscHartModel_half (ms_set_length (ms_set_bits st1 (mf_RiscHartModel_half st1 (ms_place st1))) 4) ((ms_place st1) + 2)) <<< (16 &&& 31)))))
      else
        (mf_RiscHartModel_step_t150 (ms_set_bits (ms_set_length (ms_set_bits st1 (mf_RiscHartModel_half st1 (ms_place st1))) 2) (mf_RiscHartModel_half st1 (ms_place st1))))
def mf_RiscHartModel_step (st : MS)  : Int32 × MS :=
  (mf_RiscHartModel_step_t10 (ms_set_met (ms_set_code st 0) 0))
def mf_RiscHartModel_count (st : MS) (a1 : Int32) : Int64 × MS :=
  if (mf_RiscHartModel_in a1 0 4) = 0 then
    if a1 = 0 then
      ((ms_place st).toInt64, (ms_set_code st 1))
    else
      if a1 = 1 then
        ((ms_cause st).toInt64, (ms_set_code st 1))
      else
        if a1 = 2 then
          ((ms_value st).toInt64, (ms_set_code st 1))
        else
          if a1 = 3 then
            ((ms_retired st), (ms_set_code st 1))
          else
            if a1 = 4 then
              ((ms_reserved st).toInt64, (ms_set_code st 1))
            else
              (0, (ms_set_code st 1))
  else
    if a1 = 0 then
      ((ms_place st).toInt64, (ms_set_code st 0))
    else
      if a1 = 1 then
        ((ms_cause st).toInt64, (ms_set_code st 0))
      else
        if a1 = 2 then
          ((ms_value st).toInt64, (ms_set_code st 0))
        else
          if a1 = 3 then
            ((ms_retired st), (ms_set_code st 0))
          else
            if a1 = 4 then
              ((ms_reserved st).toInt64, (ms_set_code st 0))
            else
              (0, (ms_set_code st 0))
/-! the reference's indices that stay inside -/
theorem m_in {v lo hi : Int32} (h : ¬ mf_RiscHartModel_in v lo hi = 0) : ¬ v < lo ∧ ¬ hi < v := by
  unfold mf_RiscHartModel_in at h
  by_cases h1 : v < lo
  · exact absurd (if_pos h1) h
  · rw [if_neg h1] at h
    by_cases h2 : hi < v
    · exact absurd (if_pos h2) h
    · exact ⟨h1, h2⟩
theorem m_inN {v hi : Int32} {n : Nat} (hn : hi.toInt = n) (h : ¬ mf_RiscHartModel_in v 0 hi = 0) : ∃ j : Nat, j ≤ n ∧ v = nI j := by
  obtain ⟨h1, h2⟩ := m_in h
  refine nI_of2 hn h1 ?_
  rw [Int32.le_iff_toInt_le]
  rw [Int32.lt_iff_toInt_lt] at h2
  omega
theorem in_mbyte {a : Int32} (h : ¬ mf_RiscHartModel_in a 0 65535 = 0) : vp_in a 65536 := by
  obtain ⟨j, hj, e⟩ := m_inN (n := 65535) (by decide) h
  rw [e]; exact vp_in_nI (by omega) (by omega)
theorem in_mrights {a : Int32} (h : ¬ mf_RiscHartModel_in a 0 63 = 0) : vp_in a 64 := by
  obtain ⟨j, hj, e⟩ := m_inN (n := 63) (by decide) h
  rw [e]; exact vp_in_nI (by omega) (by omega)
theorem in_mreg {a : Int32} (h : ¬ mf_RiscHartModel_in a 0 31 = 0) : vp_in a 32 := by
  obtain ⟨j, hj, e⟩ := m_inN (n := 31) (by decide) h
  rw [e]; exact vp_in_nI (by omega) (by omega)
theorem in_mpage {a : Int32} (h : ¬ mf_RiscHartModel_in a 0 65535 = 0) : vp_in (a / 1024) 64 := by
  obtain ⟨j, hj, e⟩ := m_inN (n := 65535) (by decide) h
  rw [e, show (1024 : Int32) = nI 1024 from rfl, pk_div (by omega) (by omega) (by omega)]
  exact vp_in_nI (by omega) (by omega)
theorem in_mplant (k : Int32) {a : Int32} (h : ¬ mf_RiscHartModel_in a 0 65532 = 0) (hk : ¬ k < 0 ∧ k ≤ 3) : vp_in (a + k) 65536 := by
  obtain ⟨j, hj, e⟩ := m_inN (n := 65532) (by decide) h
  obtain ⟨q, hq, e2⟩ := nI_of2 (M := 3) (n := 3) (by decide) hk.1 hk.2
  rw [e, e2, nI_add]
  exact vp_in_nI (by omega) (by omega)
theorem in_mpart5 (w k : Int32) : vp_in (mf_RiscHartModel_part w k 5) 32 := pk_andIn (ja_ushr w k) 5 (by decide) (by decide)
theorem m_may {st : MS} {a r : Int32} (h : ¬ mf_RiscHartModel_may st a r = 0) : ∃ j : Nat, j ≤ 65535 ∧ a = nI j := by
  unfold mf_RiscHartModel_may at h
  by_cases h1 : mf_RiscHartModel_in a 0 65535 = 0
  · exact absurd (if_pos h1) h
  · exact m_inN (by decide) h1
theorem m_many (f : Int32) : ∃ m : Nat, (m = 1 ∨ m = 2 ∨ m = 4 ∨ m = 8) ∧ ((1 : Int32) <<< ((f &&& 3) &&& 31)) = nI m := by
  obtain ⟨j, hj, e⟩ := pk_andE f (m := 3) 2 (by decide)
  rw [e]
  rcases (show j = 0 ∨ j = 1 ∨ j = 2 ∨ j = 3 by omega) with rfl | rfl | rfl | rfl
  · exact ⟨1, by omega, by decide⟩
  · exact ⟨2, by omega, by decide⟩
  · exact ⟨4, by omega, by decide⟩
  · exact ⟨8, by omega, by decide⟩
theorem many_le (f : Int32) : ((1 : Int32) <<< ((f &&& 3) &&& 31)) ≤ 8 := by
  obtain ⟨m, hm, e⟩ := m_many f
  rw [e]; exact nI_le (b := 8) (by omega) (by omega)
theorem nz_many (f : Int32) : ¬ ((1 : Int32) <<< ((f &&& 3) &&& 31)) = 0 := by
  obtain ⟨m, hm, e⟩ := m_many f
  rw [e]; exact nI_ne0 (by omega) (by omega)
theorem in_many {st : MS} {f a r k : Int32} (h1 : (a - a / ((1 : Int32) <<< ((f &&& 3) &&& 31)) * ((1 : Int32) <<< ((f &&& 3) &&& 31))) = 0) (h2 : ¬ mf_RiscHartModel_may st a r = 0) (h3 : ¬ ((1 : Int32) <<< ((f &&& 3) &&& 31)) ≤ k) (hk : ¬ k < 0 := by decide) : vp_in (a + k) 65536 := by
  obtain ⟨m, hm, e⟩ := m_many f
  obtain ⟨j, hj, ea⟩ := m_may h2
  obtain ⟨q, hq, ek⟩ := nI_of hk
  rw [e, ea, pk_rem (by omega) (by omega) (by omega)] at h1
  rw [e, ek] at h3
  have h4 : j % m = 0 := by
    have hlt : j % m < m := Nat.mod_lt _ (by omega)
    exact (nI_eq (a := j % m) (b := 0) (by omega) (by omega)).mp h1
  have h5 : q < m := by
    rcases Nat.lt_or_ge q m with z | z
    · exact z
    · exact absurd (nI_le z (by omega)) h3
  rw [ea, ek, nI_add]
  refine vp_in_nI ?_ (by omega)
  rcases hm with rfl | rfl | rfl | rfl <;> omega
theorem m_at {st : MS} {a r : Int32} (h1 : (a - a / 4 * 4) = 0) (h2 : ¬ mf_RiscHartModel_may st a r = 0) : ∃ j : Nat, j ≤ 65532 ∧ j % 4 = 0 ∧ a = nI j := by
  obtain ⟨j, hj, ea⟩ := m_may h2
  rw [ea, show (4 : Int32) = nI 4 from rfl, pk_rem (by omega) (by omega) (by omega)] at h1
  have h4 : j % 4 = 0 := (nI_eq (a := j % 4) (b := 0) (by omega) (by omega)).mp h1
  exact ⟨j, by omega, h4, ea⟩
theorem in_at0 {st : MS} {a r : Int32} (h1 : (a - a / 4 * 4) = 0) (h2 : ¬ mf_RiscHartModel_may st a r = 0) : vp_in a 65536 := by
  obtain ⟨j, hj, -, ea⟩ := m_at h1 h2
  rw [ea]; exact vp_in_nI (by omega) (by omega)
theorem in_at1 {st : MS} {a r : Int32} (h1 : (a - a / 4 * 4) = 0) (h2 : ¬ mf_RiscHartModel_may st a r = 0) : vp_in (a + 1) 65536 := by
  obtain ⟨j, hj, -, ea⟩ := m_at h1 h2
  rw [ea, show (1 : Int32) = nI 1 from rfl, nI_add]; exact vp_in_nI (by omega) (by omega)
theorem in_at2 {st : MS} {a r : Int32} (h1 : (a - a / 4 * 4) = 0) (h2 : ¬ mf_RiscHartModel_may st a r = 0) : vp_in (a + 2) 65536 := by
  obtain ⟨j, hj, -, ea⟩ := m_at h1 h2
  rw [ea, show (2 : Int32) = nI 2 from rfl, nI_add]; exact vp_in_nI (by omega) (by omega)
theorem in_at3 {st : MS} {a r : Int32} (h1 : (a - a / 4 * 4) = 0) (h2 : ¬ mf_RiscHartModel_may st a r = 0) : vp_in ((a + 2) + 1) 65536 := by
  obtain ⟨j, hj, -, ea⟩ := m_at h1 h2
  rw [ea, show (2 : Int32) = nI 2 from rfl, nI_add, show (1 : Int32) = nI 1 from rfl, nI_add]; exact vp_in_nI (by omega) (by omega)
theorem m_fet {st : MS} {a : Int32} (h : ¬ mf_RiscHartModel_fetches st a = 0) : ¬ mf_RiscHartModel_may st a 4 = 0 ∧ ¬ mf_RiscHartModel_may st (a + 1) 4 = 0 := by
  unfold mf_RiscHartModel_fetches at h
  by_cases h1 : mf_RiscHartModel_may st a 4 = 0
  · exact absurd (if_pos h1) h
  · rw [if_neg h1] at h
    by_cases h2 : mf_RiscHartModel_may st (a + 1) 4 = 0
    · exact absurd (if_pos h2) h
    · exact ⟨h1, h2⟩
theorem in_fet1 {st : MS} {a : Int32} (h : ¬ mf_RiscHartModel_fetches st a = 0) : vp_in a 65536 := by
  obtain ⟨j, hj, e⟩ := m_may (m_fet h).1
  rw [e]; exact vp_in_nI (by omega) (by omega)
theorem in_fet2 {st : MS} {a : Int32} (h : ¬ mf_RiscHartModel_fetches st a = 0) : vp_in (a + 1) 65536 := by
  obtain ⟨j, hj, e⟩ := m_may (m_fet h).2
  rw [e]; exact vp_in_nI (by omega) (by omega)
theorem nz_i2l {b : Int32} (h : ¬ b = 0) : ¬ b.toInt64 = 0 := fun q => h (by
  have := congrArg Int64.toInt32 q
  rw [Int32.toInt32_toInt64] at this
  exact this)
theorem nz_lo {b : Int32} (h : ¬ b = 0) : ¬ (b.toInt64 &&& 4294967295) = 0 := fun q => h (by
  have := congrArg Int64.toInt32 q
  rw [Int64.toInt32_and, Int32.toInt32_toInt64, show Int64.toInt32 4294967295 = -1 from by decide, Int32.and_neg_one] at this
  exact this)
