def fXA_rangeCheck (x0 : Int32) (x1 : Int32) (x2 : Int32) : Option (Unit) :=
  if x1 ≤ x2 then
    if (0 : Int32) ≤ x1 then
      if x2 ≤ x0 then
        some ()
      else
        none
    else
      none
  else
    none
def fXA_fill_L5 (k : Nat) (x1_ : Int32) (x3_ : Int32) : Nat → Int32 → (Nat → Int32) → Option (Int32 × (Nat → Int32))
  | 0, _, _ => none
  | n + 1, x2_, f =>
    if x3_ ≤ x2_ then
      some (x2_, f)
    else
      (stI k f x2_ x1_).bind fun f_2 =>
      fXA_fill_L5 k x1_ x3_ n (x2_ + (1 : Int32)) f_2
theorem fXA_fill_L5_s (k : Nat) (x1_ : Int32) (x3_ : Int32) (n : Nat) (x2_ : Int32) (f : Nat → Int32) : fXA_fill_L5 k x1_ x3_ (n + 1) x2_ f = (
    if x3_ ≤ x2_ then
      some (x2_, f)
    else
      (stI k f x2_ x1_).bind fun f_2 =>
      fXA_fill_L5 k x1_ x3_ n (x2_ + (1 : Int32)) f_2) := rfl
def fXA_fill (k : Nat) (f : Nat → Int32) (x1 : Int32) : Option ((Nat → Int32)) :=
  (fXA_fill_L5 k x1 (Int32.ofNat k) FU (0 : Int32) f).bind fun (x_3, f_4) =>
  some f_4
def fXB_fill_L10 (k : Nat) (x2_ : Int32) (x3_ : Int32) : Nat → Int32 → (Nat → Int32) → Option (Int32 × (Nat → Int32))
  | 0, _, _ => none
  | n + 1, x4_, f =>
    if x2_ ≤ x4_ then
      some (x4_, f)
    else
      (stI k f x4_ x3_).bind fun f_2 =>
      fXB_fill_L10 k x2_ x3_ n (x4_ + (1 : Int32)) f_2
theorem fXB_fill_L10_s (k : Nat) (x2_ : Int32) (x3_ : Int32) (n : Nat) (x4_ : Int32) (f : Nat → Int32) : fXB_fill_L10 k x2_ x3_ (n + 1) x4_ f = (
    if x2_ ≤ x4_ then
      some (x4_, f)
    else
      (stI k f x4_ x3_).bind fun f_2 =>
      fXB_fill_L10 k x2_ x3_ n (x4_ + (1 : Int32)) f_2) := rfl
def fXB_fill (k : Nat) (f : Nat → Int32) (x1 : Int32) (x2 : Int32) (x3 : Int32) : Option ((Nat → Int32)) :=
  (fXA_rangeCheck (Int32.ofNat k) x1 x2).bind fun _ =>
  (fXB_fill_L10 k x2 x3 FU x1 f).bind fun (x_3, f_4) =>
  some f_4
def fX0_requireRoot (x0 : Int32) : Option (Nat) :=
  if x0 < (0 : Int32) then
    some 1
  else
    if x0 < (8 : Int32) then
      some 0
    else
      some 1
def fX0_requireFieldCount (x0 : Int32) : Option (Nat) :=
  if x0 < (0 : Int32) then
    some 2
  else
    if x0 ≤ (6 : Int32) then
      some 0
    else
      some 2
def fX0_requireWay (x0 : Int32) : Option (Nat) :=
  if x0 < (0 : Int32) then
    some 2
  else
    if x0 ≤ (2 : Int32) then
      some 0
    else
      some 2
def fX0_fieldAddress (x0 : Int32) (x1 : Int32) : Option (Int32) :=
  some ((x0 + (2 : Int32)) + x1)
def fX0_hasRoom (tp : Int32) (x1 : Int32) : Option (Int32) :=
  if (256 : Int32) < ((tp + (2 : Int32)) + x1) then
    some (0 : Int32)
  else
    some (1 : Int32)
def fX0_fieldCount (w : Nat → Int32) (x1 : Int32) : Option (Int32) :=
  (ldI 256 w x1).bind fun v1 =>
  some (v1 &&& (15 : Int32))
def fX0_sizeOf (w : Nat → Int32) (x1 : Int32) : Option (Int32) :=
  (fX0_fieldCount w x1).bind fun v1 =>
  some ((2 : Int32) + v1)
def fX0_fieldKind (w : Nat → Int32) (x1 : Int32) (x2 : Int32) : Option (Int32) :=
  (ldI 256 w x1).bind fun v1 =>
  if (v1 &&& ((16 : Int32) <<< (x2 &&& 31))) = (0 : Int32) then
    if (v1 &&& ((1024 : Int32) <<< (x2 &&& 31))) = (0 : Int32) then
      some (0 : Int32)
    else
      some (2 : Int32)
  else
    some (1 : Int32)
def fX0_setField (w : Nat → Int32) (x1 : Int32) (x2 : Int32) (x3 : Int32) (x4 : Int32) : Option ((Nat → Int32)) :=
  (ldI 256 w x1).bind fun v1 =>
  if x3 = (1 : Int32) then
    (stI 256 w x1 ((v1 &&& ((((16 : Int32) <<< (x2 &&& 31)) ||| ((1024 : Int32) <<< (x2 &&& 31))) ^^^ (-1 : Int32))) ||| ((16 : Int32) <<< (x2 &&& 31)))).bind fun w_10 =>
    (fX0_fieldAddress x1 x2).bind fun v11 =>
    (stI 256 w_10 v11 x4).bind fun w_12 =>
    some w_12
  else
    if x3 = (2 : Int32) then
      (stI 256 w x1 ((v1 &&& ((((16 : Int32) <<< (x2 &&& 31)) ||| ((1024 : Int32) <<< (x2 &&& 31))) ^^^ (-1 : Int32))) ||| ((1024 : Int32) <<< (x2 &&& 31)))).bind fun w_7 =>
      (fX0_fieldAddress x1 x2).bind fun v8 =>
      (stI 256 w_7 v8 x4).bind fun w_9 =>
      some w_9
    else
      (stI 256 w x1 (v1 &&& ((((16 : Int32) <<< (x2 &&& 31)) ||| ((1024 : Int32) <<< (x2 &&& 31))) ^^^ (-1 : Int32)))).bind fun w_4 =>
      (fX0_fieldAddress x1 x2).bind fun v5 =>
      (stI 256 w_4 v5 x4).bind fun w_6 =>
      some w_6
def fX0_makeObject (w : Nat → Int32) (r : Nat → Int32) (st : Nat → Int32) (tp : Int32) (cn : Int32) (sr : Int32) (x1 : Int32) (x2 : Int32) : Option (Int32 × (Nat → Int32) × (Nat → Int32) × (Nat → Int32) × Int32 × Int32 × Int32) :=
  (stI 256 w tp x2).bind fun w_1 =>
  (stI 256 w_1 (tp + (1 : Int32)) (sr + (1 : Int32))).bind fun w_2 =>
  (stI 8 r x1 tp).bind fun r_3 =>
  (stI 128 st cn tp).bind fun st_4 =>
  some (sr + (1 : Int32), w_2, r_3, st_4, tp + ((2 : Int32) + x2), cn + (1 : Int32), sr + (1 : Int32))
def fX0_reach (rc : Nat → Int32) (na : Nat → Int32) (rh : Int32) (x1 : Int32) : Option ((Nat → Int32) × (Nat → Int32) × Int32) :=
  if x1 = (-1 : Int32) then
    some (rc, na, rh)
  else
    (ldI 256 na x1).bind fun v2 =>
    if v2 = (-1 : Int32) then
      (stI 256 na x1 x1).bind fun na_4 =>
      (stI 128 rc rh x1).bind fun rc_5 =>
      some (rc_5, na_4, rh + (1 : Int32))
    else
      some (rc, na, rh)
def fX0_reachFrom_L8 (x1_ : Int32) (x2_ : Int32) (w : Nat → Int32) : Nat → Int32 → (Nat → Int32) → (Nat → Int32) → Int32 → Option (Int32 × (Nat → Int32) × (Nat → Int32) × Int32)
  | 0, _, _, _, _ => none
  | n + 1, x3_, rc, na, rh =>
    if x2_ ≤ x3_ then
      some (x3_, rc, na, rh)
    else
      (fX0_fieldKind w x1_ x3_).bind fun v3 =>
      if v3 = (1 : Int32) then
        (fX0_fieldAddress x1_ x3_).bind fun v5 =>
        (ldI 256 w v5).bind fun v6 =>
        (fX0_reach rc na rh v6).bind fun (rc_7, na_8, rh_9) =>
        fX0_reachFrom_L8 x1_ x2_ w n (x3_ + (1 : Int32)) rc_7 na_8 rh_9
      else
        fX0_reachFrom_L8 x1_ x2_ w n (x3_ + (1 : Int32)) rc na rh
theorem fX0_reachFrom_L8_s (x1_ : Int32) (x2_ : Int32) (w : Nat → Int32) (n : Nat) (x3_ : Int32) (rc : Nat → Int32) (na : Nat → Int32) (rh : Int32) : fX0_reachFrom_L8 x1_ x2_ w (n + 1) x3_ rc na rh = (
    if x2_ ≤ x3_ then
      some (x3_, rc, na, rh)
    else
      (fX0_fieldKind w x1_ x3_).bind fun v3 =>
      if v3 = (1 : Int32) then
        (fX0_fieldAddress x1_ x3_).bind fun v5 =>
        (ldI 256 w v5).bind fun v6 =>
        (fX0_reach rc na rh v6).bind fun (rc_7, na_8, rh_9) =>
        fX0_reachFrom_L8 x1_ x2_ w n (x3_ + (1 : Int32)) rc_7 na_8 rh_9
      else
        fX0_reachFrom_L8 x1_ x2_ w n (x3_ + (1 : Int32)) rc na rh) := rfl
def fX0_reachFrom (w : Nat → Int32) (rc : Nat → Int32) (na : Nat → Int32) (rh : Int32) (x1 : Int32) : Option ((Nat → Int32) × (Nat → Int32) × Int32) :=
  (fX0_fieldCount w x1).bind fun v1 =>
  (fX0_reachFrom_L8 x1 v1 w FU (0 : Int32) rc na rh).bind fun (x_10, rc_11, na_12, rh_13) =>
  some (rc_11, na_12, rh_13)
def fX0_findAlive_L15 (r : Nat → Int32) : Nat → Int32 → (Nat → Int32) → (Nat → Int32) → Int32 → Option (Int32 × (Nat → Int32) × (Nat → Int32) × Int32)
  | 0, _, _, _, _ => none
  | n + 1, x1_, rc, na, rh =>
    if (8 : Int32) ≤ x1_ then
      some (x1_, rc, na, rh)
    else
      (ldI 8 r x1_).bind fun v3 =>
      (fX0_reach rc na rh v3).bind fun (rc_4, na_5, rh_6) =>
      fX0_findAlive_L15 r n (x1_ + (1 : Int32)) rc_4 na_5 rh_6
theorem fX0_findAlive_L15_s (r : Nat → Int32) (n : Nat) (x1_ : Int32) (rc : Nat → Int32) (na : Nat → Int32) (rh : Int32) : fX0_findAlive_L15 r (n + 1) x1_ rc na rh = (
    if (8 : Int32) ≤ x1_ then
      some (x1_, rc, na, rh)
    else
      (ldI 8 r x1_).bind fun v3 =>
      (fX0_reach rc na rh v3).bind fun (rc_4, na_5, rh_6) =>
      fX0_findAlive_L15 r n (x1_ + (1 : Int32)) rc_4 na_5 rh_6) := rfl
def fX0_findAlive_L39 (w : Nat → Int32) : Nat → Int32 → (Nat → Int32) → (Nat → Int32) → Int32 → Option (Int32 × (Nat → Int32) × (Nat → Int32) × Int32)
  | 0, _, _, _, _ => none
  | n + 1, x1_, rc, na, rh =>
    if rh ≤ x1_ then
      some (x1_, rc, na, rh)
    else
      if (128 : Int32) ≤ x1_ then
        some (x1_, rc, na, rh)
      else
        (ldI 128 rc x1_).bind fun v13 =>
        (fX0_reachFrom w rc na rh v13).bind fun (rc_14, na_15, rh_16) =>
        fX0_findAlive_L39 w n (x1_ + (1 : Int32)) rc_14 na_15 rh_16
theorem fX0_findAlive_L39_s (w : Nat → Int32) (n : Nat) (x1_ : Int32) (rc : Nat → Int32) (na : Nat → Int32) (rh : Int32) : fX0_findAlive_L39 w (n + 1) x1_ rc na rh = (
    if rh ≤ x1_ then
      some (x1_, rc, na, rh)
    else
      if (128 : Int32) ≤ x1_ then
        some (x1_, rc, na, rh)
      else
        (ldI 128 rc x1_).bind fun v13 =>
        (fX0_reachFrom w rc na rh v13).bind fun (rc_14, na_15, rh_16) =>
        fX0_findAlive_L39 w n (x1_ + (1 : Int32)) rc_14 na_15 rh_16) := rfl
def fX0_findAlive (w : Nat → Int32) (r : Nat → Int32) (rc : Nat → Int32) (na : Nat → Int32) (rh : Int32) : Option ((Nat → Int32) × (Nat → Int32) × Int32) :=
  (fXA_fill 256 na (-1 : Int32)).bind fun na_1 =>
  (fX0_findAlive_L15 r FU (0 : Int32) rc na_1 (0 : Int32)).bind fun (x_7, rc_8, na_9, rh_10) =>
  (fX0_findAlive_L39 w FU (0 : Int32) rc_8 na_9 rh_10).bind fun (x_17, rc_18, na_19, rh_20) =>
  some (rc_18, na_19, rh_20)
def fX0_addressAfterMove (na : Nat → Int32) (x1 : Int32) : Option (Int32) :=
  if x1 = (-1 : Int32) then
    some (-1 : Int32)
  else
    (ldI 256 na x1).bind fun v2 =>
    some v2
def fX0_isOneSize_L2 (w : Nat → Int32) (st : Nat → Int32) (cn : Int32) : Nat → Int32 → Option (Nat × Int32 × Int32)
  | 0, _ => none
  | n + 1, x1_ =>
    if cn ≤ x1_ then
      some (0, x1_, 0)
    else
      (ldI 128 st x1_).bind fun v2 =>
      (fX0_fieldCount w v2).bind fun v3 =>
      (ldI 128 st (0 : Int32)).bind fun v4 =>
      (fX0_fieldCount w v4).bind fun v5 =>
      if v3 = v5 then
        fX0_isOneSize_L2 w st cn n (x1_ + (1 : Int32))
      else
        some (1, x1_, (0 : Int32))
theorem fX0_isOneSize_L2_s (w : Nat → Int32) (st : Nat → Int32) (cn : Int32) (n : Nat) (x1_ : Int32) : fX0_isOneSize_L2 w st cn (n + 1) x1_ = (
    if cn ≤ x1_ then
      some (0, x1_, 0)
    else
      (ldI 128 st x1_).bind fun v2 =>
      (fX0_fieldCount w v2).bind fun v3 =>
      (ldI 128 st (0 : Int32)).bind fun v4 =>
      (fX0_fieldCount w v4).bind fun v5 =>
      if v3 = v5 then
        fX0_isOneSize_L2 w st cn n (x1_ + (1 : Int32))
      else
        some (1, x1_, (0 : Int32))) := rfl
def fX0_isOneSize (w : Nat → Int32) (st : Nat → Int32) (cn : Int32) : Option (Int32) :=
  (fX0_isOneSize_L2 w st cn FU (1 : Int32)).bind fun (t8, x_7, y9) =>
  if t8 = 0 then
    some (1 : Int32)
  else
    (rtZ y9).bind fun z10 =>
    some z10
def fX0_planSlide_L4 (w : Nat → Int32) (st : Nat → Int32) (cn : Int32) : Nat → Int32 → Int32 → (Nat → Int32) → Option (Int32 × Int32 × (Nat → Int32))
  | 0, _, _, _ => none
  | n + 1, x1_, x2_, na =>
    if cn ≤ x2_ then
      some (x1_, x2_, na)
    else
      (ldI 128 st x2_).bind fun v2 =>
      (ldI 256 na v2).bind fun v3 =>
      if v3 = (-1 : Int32) then
        fX0_planSlide_L4 w st cn n x1_ (x2_ + (1 : Int32)) na
      else
        (stI 256 na v2 x1_).bind fun na_5 =>
        (fX0_sizeOf w v2).bind fun v6 =>
        fX0_planSlide_L4 w st cn n (x1_ + v6) (x2_ + (1 : Int32)) na_5
theorem fX0_planSlide_L4_s (w : Nat → Int32) (st : Nat → Int32) (cn : Int32) (n : Nat) (x1_ : Int32) (x2_ : Int32) (na : Nat → Int32) : fX0_planSlide_L4 w st cn (n + 1) x1_ x2_ na = (
    if cn ≤ x2_ then
      some (x1_, x2_, na)
    else
      (ldI 128 st x2_).bind fun v2 =>
      (ldI 256 na v2).bind fun v3 =>
      if v3 = (-1 : Int32) then
        fX0_planSlide_L4 w st cn n x1_ (x2_ + (1 : Int32)) na
      else
        (stI 256 na v2 x1_).bind fun na_5 =>
        (fX0_sizeOf w v2).bind fun v6 =>
        fX0_planSlide_L4 w st cn n (x1_ + v6) (x2_ + (1 : Int32)) na_5) := rfl
def fX0_planSlide (w : Nat → Int32) (st : Nat → Int32) (na : Nat → Int32) (cn : Int32) : Option ((Nat → Int32)) :=
  (fX0_planSlide_L4 w st cn FU (0 : Int32) (0 : Int32) na).bind fun (x_7, x_8, na_9) =>
  some na_9
def fX0_planTwoFingers_L9 (st : Nat → Int32) : Nat → Int32 → Int32 → (Nat → Int32) → Option (Int32 × Int32 × (Nat → Int32))
  | 0, _, _, _ => none
  | n + 1, x1_, x2_, na =>
    if x2_ ≤ x1_ then
      some (x1_, x2_, na)
    else
      (ldI 128 st x1_).bind fun v2 =>
      (ldI 256 na v2).bind fun v3 =>
      if v3 = (-1 : Int32) then
        (ldI 128 st x2_).bind fun v5 =>
        (ldI 256 na v5).bind fun v6 =>
        if v6 = (-1 : Int32) then
          fX0_planTwoFingers_L9 st n x1_ (x2_ + (-1 : Int32)) na
        else
          (ldI 128 st x2_).bind fun v8 =>
          (ldI 128 st x1_).bind fun v9 =>
          (stI 256 na v8 v9).bind fun na_10 =>
          fX0_planTwoFingers_L9 st n (x1_ + (1 : Int32)) (x2_ + (-1 : Int32)) na_10
      else
        fX0_planTwoFingers_L9 st n (x1_ + (1 : Int32)) x2_ na
theorem fX0_planTwoFingers_L9_s (st : Nat → Int32) (n : Nat) (x1_ : Int32) (x2_ : Int32) (na : Nat → Int32) : fX0_planTwoFingers_L9 st (n + 1) x1_ x2_ na = (
    if x2_ ≤ x1_ then
      some (x1_, x2_, na)
    else
      (ldI 128 st x1_).bind fun v2 =>
      (ldI 256 na v2).bind fun v3 =>
      if v3 = (-1 : Int32) then
        (ldI 128 st x2_).bind fun v5 =>
        (ldI 256 na v5).bind fun v6 =>
        if v6 = (-1 : Int32) then
          fX0_planTwoFingers_L9 st n x1_ (x2_ + (-1 : Int32)) na
        else
          (ldI 128 st x2_).bind fun v8 =>
          (ldI 128 st x1_).bind fun v9 =>
          (stI 256 na v8 v9).bind fun na_10 =>
          fX0_planTwoFingers_L9 st n (x1_ + (1 : Int32)) (x2_ + (-1 : Int32)) na_10
      else
        fX0_planTwoFingers_L9 st n (x1_ + (1 : Int32)) x2_ na) := rfl
def fX0_planTwoFingers (st : Nat → Int32) (na : Nat → Int32) (cn : Int32) : Option ((Nat → Int32)) :=
  (fX0_planTwoFingers_L9 st FU (0 : Int32) (cn - (1 : Int32)) na).bind fun (x_11, x_12, na_13) =>
  some na_13
def fX0_redirectRoots_L2 (na : Nat → Int32) : Nat → Int32 → (Nat → Int32) → Option (Int32 × (Nat → Int32))
  | 0, _, _ => none
  | n + 1, x1_, r =>
    if (8 : Int32) ≤ x1_ then
      some (x1_, r)
    else
      (ldI 8 r x1_).bind fun v2 =>
      (fX0_addressAfterMove na v2).bind fun v3 =>
      (stI 8 r x1_ v3).bind fun r_4 =>
      fX0_redirectRoots_L2 na n (x1_ + (1 : Int32)) r_4
theorem fX0_redirectRoots_L2_s (na : Nat → Int32) (n : Nat) (x1_ : Int32) (r : Nat → Int32) : fX0_redirectRoots_L2 na (n + 1) x1_ r = (
    if (8 : Int32) ≤ x1_ then
      some (x1_, r)
    else
      (ldI 8 r x1_).bind fun v2 =>
      (fX0_addressAfterMove na v2).bind fun v3 =>
      (stI 8 r x1_ v3).bind fun r_4 =>
      fX0_redirectRoots_L2 na n (x1_ + (1 : Int32)) r_4) := rfl
def fX0_redirectRoots (r : Nat → Int32) (na : Nat → Int32) : Option ((Nat → Int32)) :=
  (fX0_redirectRoots_L2 na FU (0 : Int32) r).bind fun (x_5, r_6) =>
  some r_6
def fX0_redirectFields_L8 (x1_ : Int32) (x2_ : Int32) (na : Nat → Int32) : Nat → Int32 → (Nat → Int32) → Option (Int32 × (Nat → Int32))
  | 0, _, _ => none
  | n + 1, x3_, w =>
    if x2_ ≤ x3_ then
      some (x3_, w)
    else
      (fX0_fieldKind w x1_ x3_).bind fun v3 =>
      if v3 = (0 : Int32) then
        fX0_redirectFields_L8 x1_ x2_ na n (x3_ + (1 : Int32)) w
      else
        (fX0_fieldAddress x1_ x3_).bind fun v5 =>
        (ldI 256 w v5).bind fun v6 =>
        (fX0_addressAfterMove na v6).bind fun v7 =>
        (stI 256 w v5 v7).bind fun w_8 =>
        fX0_redirectFields_L8 x1_ x2_ na n (x3_ + (1 : Int32)) w_8
theorem fX0_redirectFields_L8_s (x1_ : Int32) (x2_ : Int32) (na : Nat → Int32) (n : Nat) (x3_ : Int32) (w : Nat → Int32) : fX0_redirectFields_L8 x1_ x2_ na (n + 1) x3_ w = (
    if x2_ ≤ x3_ then
      some (x3_, w)
    else
      (fX0_fieldKind w x1_ x3_).bind fun v3 =>
      if v3 = (0 : Int32) then
        fX0_redirectFields_L8 x1_ x2_ na n (x3_ + (1 : Int32)) w
      else
        (fX0_fieldAddress x1_ x3_).bind fun v5 =>
        (ldI 256 w v5).bind fun v6 =>
        (fX0_addressAfterMove na v6).bind fun v7 =>
        (stI 256 w v5 v7).bind fun w_8 =>
        fX0_redirectFields_L8 x1_ x2_ na n (x3_ + (1 : Int32)) w_8) := rfl
def fX0_redirectFields (w : Nat → Int32) (na : Nat → Int32) (x1 : Int32) : Option ((Nat → Int32)) :=
  (fX0_fieldCount w x1).bind fun v1 =>
  (fX0_redirectFields_L8 x1 v1 na FU (0 : Int32) w).bind fun (x_9, w_10) =>
  some w_10
def fX0_moveObjects_L2 (st : Nat → Int32) (na : Nat → Int32) (cn : Int32) : Nat → Int32 → (Nat → Int32) → Option (Int32 × (Nat → Int32))
  | 0, _, _ => none
  | n + 1, x1_, w =>
    if cn ≤ x1_ then
      some (x1_, w)
    else
      (ldI 128 st x1_).bind fun v2 =>
      (ldI 256 na v2).bind fun v3 =>
      if v3 = (-1 : Int32) then
        fX0_moveObjects_L2 st na cn n (x1_ + (1 : Int32)) w
      else
        (ldI 256 na v2).bind fun v5 =>
        (fX0_sizeOf w v2).bind fun v6 =>
        (cpI 256 w v2 v5 v6).bind fun w_7 =>
        fX0_moveObjects_L2 st na cn n (x1_ + (1 : Int32)) w_7
theorem fX0_moveObjects_L2_s (st : Nat → Int32) (na : Nat → Int32) (cn : Int32) (n : Nat) (x1_ : Int32) (w : Nat → Int32) : fX0_moveObjects_L2 st na cn (n + 1) x1_ w = (
    if cn ≤ x1_ then
      some (x1_, w)
    else
      (ldI 128 st x1_).bind fun v2 =>
      (ldI 256 na v2).bind fun v3 =>
      if v3 = (-1 : Int32) then
        fX0_moveObjects_L2 st na cn n (x1_ + (1 : Int32)) w
      else
        (ldI 256 na v2).bind fun v5 =>
        (fX0_sizeOf w v2).bind fun v6 =>
        (cpI 256 w v2 v5 v6).bind fun w_7 =>
        fX0_moveObjects_L2 st na cn n (x1_ + (1 : Int32)) w_7) := rfl
def fX0_moveObjects (w : Nat → Int32) (st : Nat → Int32) (na : Nat → Int32) (cn : Int32) : Option ((Nat → Int32)) :=
  (fX0_moveObjects_L2 st na cn FU (0 : Int32) w).bind fun (x_8, w_9) =>
  some w_9
def fX0_listObjects_L4 (w : Nat → Int32) (rh : Int32) : Nat → Int32 → Int32 → (Nat → Int32) → Option (Int32 × Int32 × (Nat → Int32))
  | 0, _, _, _ => none
  | n + 1, x1_, x2_, st =>
    if rh ≤ x2_ then
      some (x1_, x2_, st)
    else
      (stI 128 st x2_ x1_).bind fun st_2 =>
      (fX0_sizeOf w x1_).bind fun v3 =>
      fX0_listObjects_L4 w rh n (x1_ + v3) (x2_ + (1 : Int32)) st_2
theorem fX0_listObjects_L4_s (w : Nat → Int32) (rh : Int32) (n : Nat) (x1_ : Int32) (x2_ : Int32) (st : Nat → Int32) : fX0_listObjects_L4 w rh (n + 1) x1_ x2_ st = (
    if rh ≤ x2_ then
      some (x1_, x2_, st)
    else
      (stI 128 st x2_ x1_).bind fun st_2 =>
      (fX0_sizeOf w x1_).bind fun v3 =>
      fX0_listObjects_L4 w rh n (x1_ + v3) (x2_ + (1 : Int32)) st_2) := rfl
def fX0_listObjects (w : Nat → Int32) (st : Nat → Int32) (tp : Int32) (cn : Int32) (rh : Int32) : Option ((Nat → Int32) × (Nat → Int32) × Int32 × Int32) :=
  (fX0_listObjects_L4 w rh FU (0 : Int32) (0 : Int32) st).bind fun (x_4, x_5, st_6) =>
  (fXB_fill 256 w x_4 tp (0 : Int32)).bind fun w_7 =>
  some (w_7, st_6, x_4, rh)
def fX0_moveTogether_L26 (rc : Nat → Int32) (na : Nat → Int32) (rh : Int32) : Nat → Int32 → (Nat → Int32) → Option (Int32 × (Nat → Int32))
  | 0, _, _ => none
  | n + 1, x2_, w =>
    if rh ≤ x2_ then
      some (x2_, w)
    else
      (ldI 128 rc x2_).bind fun v8 =>
      (fX0_redirectFields w na v8).bind fun w_9 =>
      fX0_moveTogether_L26 rc na rh n (x2_ + (1 : Int32)) w_9
theorem fX0_moveTogether_L26_s (rc : Nat → Int32) (na : Nat → Int32) (rh : Int32) (n : Nat) (x2_ : Int32) (w : Nat → Int32) : fX0_moveTogether_L26 rc na rh (n + 1) x2_ w = (
    if rh ≤ x2_ then
      some (x2_, w)
    else
      (ldI 128 rc x2_).bind fun v8 =>
      (fX0_redirectFields w na v8).bind fun w_9 =>
      fX0_moveTogether_L26 rc na rh n (x2_ + (1 : Int32)) w_9) := rfl
def fX0_moveTogether (w : Nat → Int32) (r : Nat → Int32) (st : Nat → Int32) (rc : Nat → Int32) (na : Nat → Int32) (tp : Int32) (cn : Int32) (rh : Int32) (x1 : Int32) : Option ((Nat → Int32) × (Nat → Int32) × (Nat → Int32) × (Nat → Int32) × (Nat → Int32) × Int32 × Int32 × Int32) :=
  (fX0_findAlive w r rc na rh ).bind fun (rc_1, na_2, rh_3) =>
  if x1 = (1 : Int32) then
    (fX0_planTwoFingers st na_2 cn ).bind fun na_17 =>
    (fX0_redirectRoots r na_17 ).bind fun r_18 =>
    (fX0_moveTogether_L26 rc_1 na_17 rh_3 FU (0 : Int32) w).bind fun (x_19, w_20) =>
    (fX0_moveObjects w_20 st na_17 cn ).bind fun w_21 =>
    (fX0_listObjects w_21 st tp cn rh_3 ).bind fun (w_22, st_23, tp_24, cn_25) =>
    some (w_22, r_18, st_23, rc_1, na_17, tp_24, cn_25, rh_3)
  else
    (fX0_planSlide w st na_2 cn ).bind fun na_5 =>
    (fX0_redirectRoots r na_5 ).bind fun r_6 =>
    (fX0_moveTogether_L26 rc_1 na_5 rh_3 FU (0 : Int32) w).bind fun (x_10, w_11) =>
    (fX0_moveObjects w_11 st na_5 cn ).bind fun w_12 =>
    (fX0_listObjects w_12 st tp cn rh_3 ).bind fun (w_13, st_14, tp_15, cn_16) =>
    some (w_13, r_6, st_14, rc_1, na_5, tp_15, cn_16, rh_3)
def fX0_requireRoom (tp : Int32) (x1 : Int32) : Option (Nat) :=
  (fX0_hasRoom tp x1).bind fun v1 =>
  if v1 = (0 : Int32) then
    some 3
  else
    some 0
def fX0_requireSizesFor (w : Nat → Int32) (st : Nat → Int32) (cn : Int32) (x1 : Int32) : Option (Nat) :=
  if x1 = (1 : Int32) then
    (fX0_isOneSize w st cn ).bind fun v2 =>
    if v2 = (0 : Int32) then
      some 4
    else
      some 0
  else
    some 0
def fX0_requireObjectWithField (w : Nat → Int32) (r : Nat → Int32) (x1 : Int32) (x2 : Int32) : Option (Nat) :=
  (ldI 8 r x1).bind fun v1 =>
  if v1 = (-1 : Int32) then
    some 5
  else
    if x2 < (0 : Int32) then
      some 1
    else
      (ldI 8 r x1).bind fun v4 =>
      (fX0_fieldCount w v4).bind fun v5 =>
      if x2 < v5 then
        some 0
      else
        some 1
def fX0_requireReference (w : Nat → Int32) (x1 : Int32) (x2 : Int32) : Option (Nat) :=
  (fX0_fieldKind w x1 x2).bind fun v1 =>
  if v1 = (0 : Int32) then
    some 3
  else
    some 0
def fX0_allocate (w : Nat → Int32) (r : Nat → Int32) (st : Nat → Int32) (tp : Int32) (cn : Int32) (sr : Int32) (x1 : Int32) (x2 : Int32) : Option (Nat × Int32 × (Nat → Int32) × (Nat → Int32) × (Nat → Int32) × Int32 × Int32 × Int32) :=
  (fX0_requireRoot x1).bind fun e1 =>
  if e1 = 0 then
    (fX0_requireFieldCount x2).bind fun e2 =>
    if e2 = 0 then
      (fX0_requireRoom tp x2).bind fun e3 =>
      if e3 = 0 then
        (fX0_makeObject w r st tp cn sr x1 x2).bind fun (v4, w_5, r_6, st_7, tp_8, cn_9, sr_10) =>
        some (0, v4, w_5, r_6, st_7, tp_8, cn_9, sr_10)
      else
        some (e3, 0, w, r, st, tp, cn, sr)
    else
      some (e2, 0, w, r, st, tp, cn, sr)
  else
    some (e1, 0, w, r, st, tp, cn, sr)
def fX0_claim (w : Nat → Int32) (r : Nat → Int32) (st : Nat → Int32) (rc : Nat → Int32) (na : Nat → Int32) (tp : Int32) (cn : Int32) (rh : Int32) (sr : Int32) (x1 : Int32) (x2 : Int32) (x3 : Int32) : Option (Nat × Int32 × (Nat → Int32) × (Nat → Int32) × (Nat → Int32) × (Nat → Int32) × (Nat → Int32) × Int32 × Int32 × Int32 × Int32) :=
  (fX0_requireRoot x1).bind fun e1 =>
  if e1 = 0 then
    (fX0_requireFieldCount x2).bind fun e2 =>
    if e2 = 0 then
      (fX0_requireWay x3).bind fun e3 =>
      if e3 = 0 then
        (fX0_hasRoom tp x2).bind fun v4 =>
        if v4 = (0 : Int32) then
          (fX0_requireSizesFor w st cn x3).bind fun e13 =>
          if e13 = 0 then
            (fX0_moveTogether w r st rc na tp cn rh x3).bind fun (w_14, r_15, st_16, rc_17, na_18, tp_19, cn_20, rh_21) =>
            (fX0_requireRoom tp_19 x2).bind fun e22 =>
            if e22 = 0 then
              (fX0_makeObject w_14 r_15 st_16 tp_19 cn_20 sr x1 x2).bind fun (v23, w_24, r_25, st_26, tp_27, cn_28, sr_29) =>
              some (0, v23, w_24, r_25, st_26, rc_17, na_18, tp_27, cn_28, rh_21, sr_29)
            else
              some (e22, 0, w_14, r_15, st_16, rc_17, na_18, tp_19, cn_20, rh_21, sr)
          else
            some (e13, 0, w, r, st, rc, na, tp, cn, rh, sr)
        else
          (fX0_makeObject w r st tp cn sr x1 x2).bind fun (v6, w_7, r_8, st_9, tp_10, cn_11, sr_12) =>
          some (0, v6, w_7, r_8, st_9, rc, na, tp_10, cn_11, rh, sr_12)
      else
        some (e3, 0, w, r, st, rc, na, tp, cn, rh, sr)
    else
      some (e2, 0, w, r, st, rc, na, tp, cn, rh, sr)
  else
    some (e1, 0, w, r, st, rc, na, tp, cn, rh, sr)
def fX0_compact (w : Nat → Int32) (r : Nat → Int32) (st : Nat → Int32) (rc : Nat → Int32) (na : Nat → Int32) (tp : Int32) (cn : Int32) (rh : Int32) (x1 : Int32) : Option (Nat × Int32 × (Nat → Int32) × (Nat → Int32) × (Nat → Int32) × (Nat → Int32) × (Nat → Int32) × Int32 × Int32 × Int32) :=
  (fX0_requireWay x1).bind fun e1 =>
  if e1 = 0 then
    (fX0_requireSizesFor w st cn x1).bind fun e2 =>
    if e2 = 0 then
      (fX0_moveTogether w r st rc na tp cn rh x1).bind fun (w_3, r_4, st_5, rc_6, na_7, tp_8, cn_9, rh_10) =>
      some (0, tp - tp_8, w_3, r_4, st_5, rc_6, na_7, tp_8, cn_9, rh_10)
    else
      some (e2, 0, w, r, st, rc, na, tp, cn, rh)
  else
    some (e1, 0, w, r, st, rc, na, tp, cn, rh)
def fX0_copy (r : Nat → Int32) (x1 : Int32) (x2 : Int32) : Option (Nat × (Nat → Int32)) :=
  (fX0_requireRoot x1).bind fun e1 =>
  if e1 = 0 then
    (fX0_requireRoot x2).bind fun e2 =>
    if e2 = 0 then
      (ldI 8 r x2).bind fun v3 =>
      (stI 8 r x1 v3).bind fun r_4 =>
      some (0, r_4)
    else
      some (e2, r)
  else
    some (e1, r)
def fX0_clear (r : Nat → Int32) (x1 : Int32) : Option (Nat × (Nat → Int32)) :=
  (fX0_requireRoot x1).bind fun e1 =>
  if e1 = 0 then
    (stI 8 r x1 (-1 : Int32)).bind fun r_2 =>
    some (0, r_2)
  else
    some (e1, r)
def fX0_put (w : Nat → Int32) (r : Nat → Int32) (x1 : Int32) (x2 : Int32) (x3 : Int32) : Option (Nat × (Nat → Int32)) :=
  (fX0_requireRoot x1).bind fun e1 =>
  if e1 = 0 then
    (fX0_requireObjectWithField w r x1 x2).bind fun e2 =>
    if e2 = 0 then
      (ldI 8 r x1).bind fun v3 =>
      (fX0_setField w v3 x2 (0 : Int32) x3).bind fun w_4 =>
      some (0, w_4)
    else
      some (e2, w)
  else
    some (e1, w)
def fX0_refer (w : Nat → Int32) (r : Nat → Int32) (x1 : Int32) (x2 : Int32) (x3 : Int32) (x4 : Int32) : Option (Nat × (Nat → Int32)) :=
  (fX0_requireRoot x1).bind fun e1 =>
  if e1 = 0 then
    (fX0_requireRoot x3).bind fun e2 =>
    if e2 = 0 then
      (fX0_requireObjectWithField w r x1 x2).bind fun e3 =>
      if e3 = 0 then
        (ldI 8 r x1).bind fun v4 =>
        if x4 = (0 : Int32) then
          (ldI 8 r x3).bind fun v6 =>
          (fX0_setField w v4 x2 (1 : Int32) v6).bind fun w_7 =>
          some (0, w_7)
        else
          (ldI 8 r x3).bind fun v8 =>
          (fX0_setField w v4 x2 (2 : Int32) v8).bind fun w_9 =>
          some (0, w_9)
      else
        some (e3, w)
    else
      some (e2, w)
  else
    some (e1, w)
def fX0_follow (w : Nat → Int32) (r : Nat → Int32) (x1 : Int32) (x2 : Int32) (x3 : Int32) : Option (Nat × Int32 × (Nat → Int32)) :=
  (fX0_requireRoot x1).bind fun e1 =>
  if e1 = 0 then
    (fX0_requireRoot x3).bind fun e2 =>
    if e2 = 0 then
      (fX0_requireObjectWithField w r x1 x2).bind fun e3 =>
      if e3 = 0 then
        (ldI 8 r x1).bind fun v4 =>
        (fX0_requireReference w v4 x2).bind fun e5 =>
        if e5 = 0 then
          (ldI 8 r x1).bind fun v6 =>
          (fX0_fieldAddress v6 x2).bind fun v7 =>
          (ldI 256 w v7).bind fun v8 =>
          (stI 8 r x3 v8).bind fun r_9 =>
          (ldI 8 r_9 x3).bind fun v10 =>
          if v10 = (-1 : Int32) then
            some (0, (0 : Int32), r_9)
          else
            some (0, (1 : Int32), r_9)
        else
          some (e5, 0, r)
      else
        some (e3, 0, r)
    else
      some (e2, 0, r)
  else
    some (e1, 0, r)
def fX0_kind (w : Nat → Int32) (r : Nat → Int32) (x1 : Int32) (x2 : Int32) : Option (Nat × Int32) :=
  (fX0_requireRoot x1).bind fun e1 =>
  if e1 = 0 then
    (fX0_requireObjectWithField w r x1 x2).bind fun e2 =>
    if e2 = 0 then
      (ldI 8 r x1).bind fun v3 =>
      (fX0_fieldKind w v3 x2).bind fun v4 =>
      some (0, v4)
    else
      some (e2, 0)
  else
    some (e1, 0)
def fX0_serial (w : Nat → Int32) (r : Nat → Int32) (x1 : Int32) : Option (Nat × Int32) :=
  (fX0_requireRoot x1).bind fun e1 =>
  if e1 = 0 then
    (ldI 8 r x1).bind fun v2 =>
    if v2 = (-1 : Int32) then
      some (0, (-1 : Int32))
    else
      (ldI 8 r x1).bind fun v4 =>
      (ldI 256 w (v4 + (1 : Int32))).bind fun v5 =>
      some (0, v5)
  else
    some (e1, 0)
def fX0_address (r : Nat → Int32) (x1 : Int32) : Option (Nat × Int32) :=
  (fX0_requireRoot x1).bind fun e1 =>
  if e1 = 0 then
    (ldI 8 r x1).bind fun v2 =>
    some (0, v2)
  else
    some (e1, 0)
def fX0_word (w : Nat → Int32) (x1 : Int32) : Option (Nat × Int32) :=
  if x1 < (0 : Int32) then
    some (1, 0)
  else
    if x1 < (256 : Int32) then
      (ldI 256 w x1).bind fun v3 =>
      some (0, v3)
    else
      some (1, 0)
def fX0_top (tp : Int32) : Option (Int32) :=
  some tp
def fX0_objects (cn : Int32) : Option (Int32) :=
  some cn
def fX0_alive (w : Nat → Int32) (r : Nat → Int32) (rc : Nat → Int32) (na : Nat → Int32) (rh : Int32) : Option (Int32 × (Nat → Int32) × (Nat → Int32) × Int32) :=
  (fX0_findAlive w r rc na rh ).bind fun (rc_1, na_2, rh_3) =>
  some (rh_3, rc_1, na_2, rh_3)
def fX1_thrown (th : Int32) : Option (Int32) :=
  some th
def fX1_topNow_L4 (fi : Nat → Int32) (ct : Int32) (od : Nat → Int32) : Nat → Int32 → Int32 → Option (Int32 × Int32)
  | 0, _, _ => none
  | n + 1, x1_, x2_ =>
    if ct ≤ x2_ then
      some (x1_, x2_)
    else
      (ldI 128 od x2_).bind fun v2 =>
      (ldI 128 fi v2).bind fun v3 =>
      fX1_topNow_L4 fi ct od n ((x1_ + v3) + (2 : Int32)) (x2_ + (1 : Int32))
theorem fX1_topNow_L4_s (fi : Nat → Int32) (ct : Int32) (od : Nat → Int32) (n : Nat) (x1_ : Int32) (x2_ : Int32) : fX1_topNow_L4 fi ct od (n + 1) x1_ x2_ = (
    if ct ≤ x2_ then
      some (x1_, x2_)
    else
      (ldI 128 od x2_).bind fun v2 =>
      (ldI 128 fi v2).bind fun v3 =>
      fX1_topNow_L4 fi ct od n ((x1_ + v3) + (2 : Int32)) (x2_ + (1 : Int32))) := rfl
def fX1_topNow (fi : Nat → Int32) (ct : Int32) (od : Nat → Int32) : Option (Int32) :=
  (fX1_topNow_L4 fi ct od FU (0 : Int32) (0 : Int32)).bind fun (x_4, x_5) =>
  some x_4
def fX1_addressOf_L4 (x1_ : Int32) (fi : Nat → Int32) (ct : Int32) (od : Nat → Int32) : Nat → Int32 → Int32 → Option (Nat × Int32 × Int32 × Int32)
  | 0, _, _ => none
  | n + 1, x2_, x3_ =>
    if ct ≤ x3_ then
      some (0, x2_, x3_, 0)
    else
      (ldI 128 od x3_).bind fun v2 =>
      if v2 = x1_ then
        some (1, x2_, x3_, x2_)
      else
        (ldI 128 od x3_).bind fun v4 =>
        (ldI 128 fi v4).bind fun v5 =>
        fX1_addressOf_L4 x1_ fi ct od n ((x2_ + v5) + (2 : Int32)) (x3_ + (1 : Int32))
theorem fX1_addressOf_L4_s (x1_ : Int32) (fi : Nat → Int32) (ct : Int32) (od : Nat → Int32) (n : Nat) (x2_ : Int32) (x3_ : Int32) : fX1_addressOf_L4 x1_ fi ct od (n + 1) x2_ x3_ = (
    if ct ≤ x3_ then
      some (0, x2_, x3_, 0)
    else
      (ldI 128 od x3_).bind fun v2 =>
      if v2 = x1_ then
        some (1, x2_, x3_, x2_)
      else
        (ldI 128 od x3_).bind fun v4 =>
        (ldI 128 fi v4).bind fun v5 =>
        fX1_addressOf_L4 x1_ fi ct od n ((x2_ + v5) + (2 : Int32)) (x3_ + (1 : Int32))) := rfl
def fX1_addressOf (fi : Nat → Int32) (ct : Int32) (od : Nat → Int32) (x1 : Int32) : Option (Int32) :=
  (fX1_addressOf_L4 x1 fi ct od FU (0 : Int32) (0 : Int32)).bind fun (t8, x_6, x_7, y9) =>
  if t8 = 0 then
    some (-1 : Int32)
  else
    some y9
def fX1_enliven (li : Nat → Int32) (x1 : Int32) : Option (Int32 × (Nat → Int32)) :=
  if x1 < (0 : Int32) then
    some ((0 : Int32), li)
  else
    (ldI 128 li x1).bind fun v2 =>
    if v2 = (0 : Int32) then
      (stZ 128 li x1 (1 : Int32)).bind fun li_4 =>
      some ((1 : Int32), li_4)
    else
      some ((0 : Int32), li)
def fX1_findAlive_L2 : Nat → Int32 → (Nat → Int32) → Option (Int32 × (Nat → Int32))
  | 0, _, _ => none
  | n + 1, x1_, li =>
    if (128 : Int32) ≤ x1_ then
      some (x1_, li)
    else
      (stZ 128 li x1_ (0 : Int32)).bind fun li_2 =>
      fX1_findAlive_L2 n (x1_ + (1 : Int32)) li_2
theorem fX1_findAlive_L2_s (n : Nat) (x1_ : Int32) (li : Nat → Int32) : fX1_findAlive_L2 (n + 1) x1_ li = (
    if (128 : Int32) ≤ x1_ then
      some (x1_, li)
    else
      (stZ 128 li x1_ (0 : Int32)).bind fun li_2 =>
      fX1_findAlive_L2 n (x1_ + (1 : Int32)) li_2) := rfl
def fX1_findAlive_L26 (ro : Nat → Int32) : Nat → Int32 → Int32 → (Nat → Int32) → Option (Int32 × Int32 × (Nat → Int32))
  | 0, _, _, _ => none
  | n + 1, x1_, x2_, li =>
    if (8 : Int32) ≤ x2_ then
      some (x1_, x2_, li)
    else
      (ldI 8 ro x2_).bind fun v6 =>
      (fX1_enliven li v6).bind fun (v7, li_8) =>
      if x1_ = (0 : Int32) then
        if v7 = (0 : Int32) then
          fX1_findAlive_L26 ro n (0 : Int32) (x2_ + (1 : Int32)) li_8
        else
          fX1_findAlive_L26 ro n (1 : Int32) (x2_ + (1 : Int32)) li_8
      else
        fX1_findAlive_L26 ro n (1 : Int32) (x2_ + (1 : Int32)) li_8
theorem fX1_findAlive_L26_s (ro : Nat → Int32) (n : Nat) (x1_ : Int32) (x2_ : Int32) (li : Nat → Int32) : fX1_findAlive_L26 ro (n + 1) x1_ x2_ li = (
    if (8 : Int32) ≤ x2_ then
      some (x1_, x2_, li)
    else
      (ldI 8 ro x2_).bind fun v6 =>
      (fX1_enliven li v6).bind fun (v7, li_8) =>
      if x1_ = (0 : Int32) then
        if v7 = (0 : Int32) then
          fX1_findAlive_L26 ro n (0 : Int32) (x2_ + (1 : Int32)) li_8
        else
          fX1_findAlive_L26 ro n (1 : Int32) (x2_ + (1 : Int32)) li_8
      else
        fX1_findAlive_L26 ro n (1 : Int32) (x2_ + (1 : Int32)) li_8) := rfl
def fX1_findAlive_L80 (x2_ : Int32) (fi : Nat → Int32) (ki : Nat → Int32) (va : Nat → Int32) : Nat → Int32 → Int32 → (Nat → Int32) → Option (Int32 × Int32 × (Nat → Int32))
  | 0, _, _, _ => none
  | n + 1, x1_, x3_, li =>
    (ldI 128 fi x2_).bind fun v16 =>
    if v16 ≤ x3_ then
      some (x1_, x3_, li)
    else
      (ldI 128 li x2_).bind fun v18 =>
      if v18 = (0 : Int32) then
        some (x1_, x3_, li)
      else
        (ldI 768 ki (((6 : Int32) * x2_) + x3_)).bind fun v20 =>
        if v20 = (1 : Int32) then
          (ldI 768 va (((6 : Int32) * x2_) + x3_)).bind fun v23 =>
          (fX1_enliven li v23).bind fun (v24, li_25) =>
          if v24 = (0 : Int32) then
            if x1_ = (0 : Int32) then
              fX1_findAlive_L80 x2_ fi ki va n (0 : Int32) (x3_ + (1 : Int32)) li_25
            else
              fX1_findAlive_L80 x2_ fi ki va n (1 : Int32) (x3_ + (1 : Int32)) li_25
          else
            if x1_ = (0 : Int32) then
              fX1_findAlive_L80 x2_ fi ki va n (1 : Int32) (x3_ + (1 : Int32)) li_25
            else
              fX1_findAlive_L80 x2_ fi ki va n (1 : Int32) (x3_ + (1 : Int32)) li_25
        else
          if x1_ = (0 : Int32) then
            fX1_findAlive_L80 x2_ fi ki va n (0 : Int32) (x3_ + (1 : Int32)) li
          else
            fX1_findAlive_L80 x2_ fi ki va n (1 : Int32) (x3_ + (1 : Int32)) li
theorem fX1_findAlive_L80_s (x2_ : Int32) (fi : Nat → Int32) (ki : Nat → Int32) (va : Nat → Int32) (n : Nat) (x1_ : Int32) (x3_ : Int32) (li : Nat → Int32) : fX1_findAlive_L80 x2_ fi ki va (n + 1) x1_ x3_ li = (
    (ldI 128 fi x2_).bind fun v16 =>
    if v16 ≤ x3_ then
      some (x1_, x3_, li)
    else
      (ldI 128 li x2_).bind fun v18 =>
      if v18 = (0 : Int32) then
        some (x1_, x3_, li)
      else
        (ldI 768 ki (((6 : Int32) * x2_) + x3_)).bind fun v20 =>
        if v20 = (1 : Int32) then
          (ldI 768 va (((6 : Int32) * x2_) + x3_)).bind fun v23 =>
          (fX1_enliven li v23).bind fun (v24, li_25) =>
          if v24 = (0 : Int32) then
            if x1_ = (0 : Int32) then
              fX1_findAlive_L80 x2_ fi ki va n (0 : Int32) (x3_ + (1 : Int32)) li_25
            else
              fX1_findAlive_L80 x2_ fi ki va n (1 : Int32) (x3_ + (1 : Int32)) li_25
          else
            if x1_ = (0 : Int32) then
              fX1_findAlive_L80 x2_ fi ki va n (1 : Int32) (x3_ + (1 : Int32)) li_25
            else
              fX1_findAlive_L80 x2_ fi ki va n (1 : Int32) (x3_ + (1 : Int32)) li_25
        else
          if x1_ = (0 : Int32) then
            fX1_findAlive_L80 x2_ fi ki va n (0 : Int32) (x3_ + (1 : Int32)) li
          else
            fX1_findAlive_L80 x2_ fi ki va n (1 : Int32) (x3_ + (1 : Int32)) li) := rfl
def fX1_findAlive_L71 (fi : Nat → Int32) (ki : Nat → Int32) (va : Nat → Int32) : Nat → Int32 → Int32 → (Nat → Int32) → Option (Int32 × Int32 × (Nat → Int32))
  | 0, _, _, _ => none
  | n + 1, x1_, x2_, li =>
    if (128 : Int32) ≤ x2_ then
      some (x1_, x2_, li)
    else
      (fX1_findAlive_L80 x2_ fi ki va FU x1_ (0 : Int32) li).bind fun (x_29, x_30, li_31) =>
      fX1_findAlive_L71 fi ki va n x_29 (x2_ + (1 : Int32)) li_31
theorem fX1_findAlive_L71_s (fi : Nat → Int32) (ki : Nat → Int32) (va : Nat → Int32) (n : Nat) (x1_ : Int32) (x2_ : Int32) (li : Nat → Int32) : fX1_findAlive_L71 fi ki va (n + 1) x1_ x2_ li = (
    if (128 : Int32) ≤ x2_ then
      some (x1_, x2_, li)
    else
      (fX1_findAlive_L80 x2_ fi ki va FU x1_ (0 : Int32) li).bind fun (x_29, x_30, li_31) =>
      fX1_findAlive_L71 fi ki va n x_29 (x2_ + (1 : Int32)) li_31) := rfl
def fX1_findAlive_L63 (fi : Nat → Int32) (ki : Nat → Int32) (va : Nat → Int32) : Nat → Int32 → Int32 → (Nat → Int32) → Option (Int32 × Int32 × (Nat → Int32))
  | 0, _, _, _ => none
  | n + 1, x1_, x2_, li =>
    if x1_ = (0 : Int32) then
      some (x1_, x2_, li)
    else
      (fX1_findAlive_L71 fi ki va FU (0 : Int32) (0 : Int32) li).bind fun (x_32, x_33, li_34) =>
      fX1_findAlive_L63 fi ki va n x_32 x_33 li_34
theorem fX1_findAlive_L63_s (fi : Nat → Int32) (ki : Nat → Int32) (va : Nat → Int32) (n : Nat) (x1_ : Int32) (x2_ : Int32) (li : Nat → Int32) : fX1_findAlive_L63 fi ki va (n + 1) x1_ x2_ li = (
    if x1_ = (0 : Int32) then
      some (x1_, x2_, li)
    else
      (fX1_findAlive_L71 fi ki va FU (0 : Int32) (0 : Int32) li).bind fun (x_32, x_33, li_34) =>
      fX1_findAlive_L63 fi ki va n x_32 x_33 li_34) := rfl
def fX1_findAlive (fi : Nat → Int32) (ki : Nat → Int32) (va : Nat → Int32) (li : Nat → Int32) (ro : Nat → Int32) : Option ((Nat → Int32)) :=
  (fX1_findAlive_L2 FU (0 : Int32) li).bind fun (x_3, li_4) =>
  (fX1_findAlive_L26 ro FU (0 : Int32) (0 : Int32) li_4).bind fun (x_11, x_12, li_13) =>
  (fX1_findAlive_L63 fi ki va FU x_11 x_12 li_13).bind fun (x_35, x_36, li_37) =>
  some li_37
def fX1_countAlive_L4 (li : Nat → Int32) (ct : Int32) (od : Nat → Int32) : Nat → Int32 → Int32 → Option (Int32 × Int32)
  | 0, _, _ => none
  | n + 1, x1_, x2_ =>
    if ct ≤ x2_ then
      some (x1_, x2_)
    else
      (ldI 128 od x2_).bind fun v2 =>
      (ldI 128 li v2).bind fun v3 =>
      if v3 = (0 : Int32) then
        fX1_countAlive_L4 li ct od n x1_ (x2_ + (1 : Int32))
      else
        fX1_countAlive_L4 li ct od n (x1_ + (1 : Int32)) (x2_ + (1 : Int32))
theorem fX1_countAlive_L4_s (li : Nat → Int32) (ct : Int32) (od : Nat → Int32) (n : Nat) (x1_ : Int32) (x2_ : Int32) : fX1_countAlive_L4 li ct od (n + 1) x1_ x2_ = (
    if ct ≤ x2_ then
      some (x1_, x2_)
    else
      (ldI 128 od x2_).bind fun v2 =>
      (ldI 128 li v2).bind fun v3 =>
      if v3 = (0 : Int32) then
        fX1_countAlive_L4 li ct od n x1_ (x2_ + (1 : Int32))
      else
        fX1_countAlive_L4 li ct od n (x1_ + (1 : Int32)) (x2_ + (1 : Int32))) := rfl
def fX1_countAlive (li : Nat → Int32) (ct : Int32) (od : Nat → Int32) : Option (Int32) :=
  (fX1_countAlive_L4 li ct od FU (0 : Int32) (0 : Int32)).bind fun (x_5, x_6) =>
  some x_5
def fX1_oneSize_L4 (fi : Nat → Int32) (ct : Int32) (od : Nat → Int32) : Nat → Int32 → Int32 → Option (Int32 × Int32)
  | 0, _, _ => none
  | n + 1, x1_, x2_ =>
    if ct ≤ x2_ then
      some (x1_, x2_)
    else
      if x1_ = (0 : Int32) then
        fX1_oneSize_L4 fi ct od n (0 : Int32) (x2_ + (1 : Int32))
      else
        (ldI 128 od x2_).bind fun v3 =>
        (ldI 128 fi v3).bind fun v4 =>
        (ldI 128 od (0 : Int32)).bind fun v5 =>
        (ldI 128 fi v5).bind fun v6 =>
        if v4 = v6 then
          fX1_oneSize_L4 fi ct od n (1 : Int32) (x2_ + (1 : Int32))
        else
          fX1_oneSize_L4 fi ct od n (0 : Int32) (x2_ + (1 : Int32))
theorem fX1_oneSize_L4_s (fi : Nat → Int32) (ct : Int32) (od : Nat → Int32) (n : Nat) (x1_ : Int32) (x2_ : Int32) : fX1_oneSize_L4 fi ct od (n + 1) x1_ x2_ = (
    if ct ≤ x2_ then
      some (x1_, x2_)
    else
      if x1_ = (0 : Int32) then
        fX1_oneSize_L4 fi ct od n (0 : Int32) (x2_ + (1 : Int32))
      else
        (ldI 128 od x2_).bind fun v3 =>
        (ldI 128 fi v3).bind fun v4 =>
        (ldI 128 od (0 : Int32)).bind fun v5 =>
        (ldI 128 fi v5).bind fun v6 =>
        if v4 = v6 then
          fX1_oneSize_L4 fi ct od n (1 : Int32) (x2_ + (1 : Int32))
        else
          fX1_oneSize_L4 fi ct od n (0 : Int32) (x2_ + (1 : Int32))) := rfl
def fX1_oneSize (fi : Nat → Int32) (ct : Int32) (od : Nat → Int32) : Option (Int32) :=
  (fX1_oneSize_L4 fi ct od FU (1 : Int32) (1 : Int32)).bind fun (x_8, x_9) =>
  (rtZ x_8).bind fun z10 =>
  some z10
def fX1_keepOrder_L4 (li : Nat → Int32) (ct : Int32) (od : Nat → Int32) : Nat → Int32 → Int32 → (Nat → Int32) → Option (Int32 × Int32 × (Nat → Int32))
  | 0, _, _, _ => none
  | n + 1, x1_, x2_, ne =>
    if ct ≤ x2_ then
      some (x1_, x2_, ne)
    else
      (ldI 128 od x2_).bind fun v2 =>
      (ldI 128 li v2).bind fun v3 =>
      if v3 = (0 : Int32) then
        fX1_keepOrder_L4 li ct od n x1_ (x2_ + (1 : Int32)) ne
      else
        (ldI 128 od x2_).bind fun v5 =>
        (stI 128 ne x1_ v5).bind fun ne_6 =>
        fX1_keepOrder_L4 li ct od n (x1_ + (1 : Int32)) (x2_ + (1 : Int32)) ne_6
theorem fX1_keepOrder_L4_s (li : Nat → Int32) (ct : Int32) (od : Nat → Int32) (n : Nat) (x1_ : Int32) (x2_ : Int32) (ne : Nat → Int32) : fX1_keepOrder_L4 li ct od (n + 1) x1_ x2_ ne = (
    if ct ≤ x2_ then
      some (x1_, x2_, ne)
    else
      (ldI 128 od x2_).bind fun v2 =>
      (ldI 128 li v2).bind fun v3 =>
      if v3 = (0 : Int32) then
        fX1_keepOrder_L4 li ct od n x1_ (x2_ + (1 : Int32)) ne
      else
        (ldI 128 od x2_).bind fun v5 =>
        (stI 128 ne x1_ v5).bind fun ne_6 =>
        fX1_keepOrder_L4 li ct od n (x1_ + (1 : Int32)) (x2_ + (1 : Int32)) ne_6) := rfl
def fX1_keepOrder (li : Nat → Int32) (ct : Int32) (od : Nat → Int32) (ne : Nat → Int32) : Option ((Nat → Int32)) :=
  (fX1_keepOrder_L4 li ct od FU (0 : Int32) (0 : Int32) ne).bind fun (x_7, x_8, ne_9) =>
  some ne_9
def fX1_fillGaps_L48 (li : Nat → Int32) (od : Nat → Int32) : Nat → Int32 → Option (Int32)
  | 0, _ => none
  | n + 1, x2_ =>
    (ldI 128 od x2_).bind fun v6 =>
    (ldI 128 li v6).bind fun v7 =>
    if v7 = (0 : Int32) then
      fX1_fillGaps_L48 li od n (x2_ + (-1 : Int32))
    else
      some x2_
theorem fX1_fillGaps_L48_s (li : Nat → Int32) (od : Nat → Int32) (n : Nat) (x2_ : Int32) : fX1_fillGaps_L48 li od (n + 1) x2_ = (
    (ldI 128 od x2_).bind fun v6 =>
    (ldI 128 li v6).bind fun v7 =>
    if v7 = (0 : Int32) then
      fX1_fillGaps_L48 li od n (x2_ + (-1 : Int32))
    else
      some x2_) := rfl
def fX1_fillGaps_L14 (x1_ : Int32) (li : Nat → Int32) (od : Nat → Int32) : Nat → Int32 → Int32 → (Nat → Int32) → Option (Int32 × Int32 × (Nat → Int32))
  | 0, _, _, _ => none
  | n + 1, x2_, x3_, ne =>
    if x1_ ≤ x3_ then
      some (x2_, x3_, ne)
    else
      (ldI 128 od x3_).bind fun v3 =>
      (ldI 128 li v3).bind fun v4 =>
      if v4 = (0 : Int32) then
        (fX1_fillGaps_L48 li od FU x2_).bind fun x_9 =>
        (ldI 128 od x_9).bind fun v10 =>
        (stI 128 ne x3_ v10).bind fun ne_11 =>
        fX1_fillGaps_L14 x1_ li od n (x_9 + (-1 : Int32)) (x3_ + (1 : Int32)) ne_11
      else
        (ldI 128 od x3_).bind fun v12 =>
        (stI 128 ne x3_ v12).bind fun ne_13 =>
        fX1_fillGaps_L14 x1_ li od n x2_ (x3_ + (1 : Int32)) ne_13
theorem fX1_fillGaps_L14_s (x1_ : Int32) (li : Nat → Int32) (od : Nat → Int32) (n : Nat) (x2_ : Int32) (x3_ : Int32) (ne : Nat → Int32) : fX1_fillGaps_L14 x1_ li od (n + 1) x2_ x3_ ne = (
    if x1_ ≤ x3_ then
      some (x2_, x3_, ne)
    else
      (ldI 128 od x3_).bind fun v3 =>
      (ldI 128 li v3).bind fun v4 =>
      if v4 = (0 : Int32) then
        (fX1_fillGaps_L48 li od FU x2_).bind fun x_9 =>
        (ldI 128 od x_9).bind fun v10 =>
        (stI 128 ne x3_ v10).bind fun ne_11 =>
        fX1_fillGaps_L14 x1_ li od n (x_9 + (-1 : Int32)) (x3_ + (1 : Int32)) ne_11
      else
        (ldI 128 od x3_).bind fun v12 =>
        (stI 128 ne x3_ v12).bind fun ne_13 =>
        fX1_fillGaps_L14 x1_ li od n x2_ (x3_ + (1 : Int32)) ne_13) := rfl
def fX1_fillGaps (li : Nat → Int32) (ct : Int32) (od : Nat → Int32) (ne : Nat → Int32) : Option ((Nat → Int32)) :=
  (fX1_countAlive li ct od ).bind fun v1 =>
  (fX1_fillGaps_L14 v1 li od FU (ct - (1 : Int32)) (0 : Int32) ne).bind fun (x_14, x_15, ne_16) =>
  some ne_16
def fX1_press_L21 (x3_ : Int32) (us : Nat → Int32) (fi : Nat → Int32) (ki : Nat → Int32) (li : Nat → Int32) : Nat → Int32 → (Nat → Int32) → Option (Int32 × (Nat → Int32))
  | 0, _, _ => none
  | n + 1, x4_, va =>
    (ldI 128 fi x3_).bind fun v4 =>
    if v4 ≤ x4_ then
      some (x4_, va)
    else
      (ldI 128 us x3_).bind fun v6 =>
      if v6 = (0 : Int32) then
        some (x4_, va)
      else
        (ldI 768 ki (((6 : Int32) * x3_) + x4_)).bind fun v8 =>
        if v8 = (2 : Int32) then
          (ldI 768 va (((6 : Int32) * x3_) + x4_)).bind fun v10 =>
          if v10 < (0 : Int32) then
            fX1_press_L21 x3_ us fi ki li n (x4_ + (1 : Int32)) va
          else
            (ldI 768 va (((6 : Int32) * x3_) + x4_)).bind fun v12 =>
            (ldI 128 li v12).bind fun v13 =>
            if v13 = (0 : Int32) then
              (stI 768 va (((6 : Int32) * x3_) + x4_) (-1 : Int32)).bind fun va_15 =>
              fX1_press_L21 x3_ us fi ki li n (x4_ + (1 : Int32)) va_15
            else
              fX1_press_L21 x3_ us fi ki li n (x4_ + (1 : Int32)) va
        else
          fX1_press_L21 x3_ us fi ki li n (x4_ + (1 : Int32)) va
theorem fX1_press_L21_s (x3_ : Int32) (us : Nat → Int32) (fi : Nat → Int32) (ki : Nat → Int32) (li : Nat → Int32) (n : Nat) (x4_ : Int32) (va : Nat → Int32) : fX1_press_L21 x3_ us fi ki li (n + 1) x4_ va = (
    (ldI 128 fi x3_).bind fun v4 =>
    if v4 ≤ x4_ then
      some (x4_, va)
    else
      (ldI 128 us x3_).bind fun v6 =>
      if v6 = (0 : Int32) then
        some (x4_, va)
      else
        (ldI 768 ki (((6 : Int32) * x3_) + x4_)).bind fun v8 =>
        if v8 = (2 : Int32) then
          (ldI 768 va (((6 : Int32) * x3_) + x4_)).bind fun v10 =>
          if v10 < (0 : Int32) then
            fX1_press_L21 x3_ us fi ki li n (x4_ + (1 : Int32)) va
          else
            (ldI 768 va (((6 : Int32) * x3_) + x4_)).bind fun v12 =>
            (ldI 128 li v12).bind fun v13 =>
            if v13 = (0 : Int32) then
              (stI 768 va (((6 : Int32) * x3_) + x4_) (-1 : Int32)).bind fun va_15 =>
              fX1_press_L21 x3_ us fi ki li n (x4_ + (1 : Int32)) va_15
            else
              fX1_press_L21 x3_ us fi ki li n (x4_ + (1 : Int32)) va
        else
          fX1_press_L21 x3_ us fi ki li n (x4_ + (1 : Int32)) va) := rfl
def fX1_press_L11 (us : Nat → Int32) (fi : Nat → Int32) (ki : Nat → Int32) (li : Nat → Int32) : Nat → Int32 → (Nat → Int32) → Option (Int32 × (Nat → Int32))
  | 0, _, _ => none
  | n + 1, x3_, va =>
    if (128 : Int32) ≤ x3_ then
      some (x3_, va)
    else
      (fX1_press_L21 x3_ us fi ki li FU (0 : Int32) va).bind fun (x_16, va_17) =>
      fX1_press_L11 us fi ki li n (x3_ + (1 : Int32)) va_17
theorem fX1_press_L11_s (us : Nat → Int32) (fi : Nat → Int32) (ki : Nat → Int32) (li : Nat → Int32) (n : Nat) (x3_ : Int32) (va : Nat → Int32) : fX1_press_L11 us fi ki li (n + 1) x3_ va = (
    if (128 : Int32) ≤ x3_ then
      some (x3_, va)
    else
      (fX1_press_L21 x3_ us fi ki li FU (0 : Int32) va).bind fun (x_16, va_17) =>
      fX1_press_L11 us fi ki li n (x3_ + (1 : Int32)) va_17) := rfl
def fX1_press_L124 (li : Nat → Int32) : Nat → Int32 → (Nat → Int32) → Option (Int32 × (Nat → Int32))
  | 0, _, _ => none
  | n + 1, x3_, us =>
    if (128 : Int32) ≤ x3_ then
      some (x3_, us)
    else
      (ldI 128 us x3_).bind fun v23 =>
      if v23 = (0 : Int32) then
        (stZ 128 us x3_ (0 : Int32)).bind fun us_25 =>
        fX1_press_L124 li n (x3_ + (1 : Int32)) us_25
      else
        (ldI 128 li x3_).bind fun v26 =>
        if v26 = (0 : Int32) then
          (stZ 128 us x3_ (0 : Int32)).bind fun us_28 =>
          fX1_press_L124 li n (x3_ + (1 : Int32)) us_28
        else
          (stZ 128 us x3_ (1 : Int32)).bind fun us_29 =>
          fX1_press_L124 li n (x3_ + (1 : Int32)) us_29
theorem fX1_press_L124_s (li : Nat → Int32) (n : Nat) (x3_ : Int32) (us : Nat → Int32) : fX1_press_L124 li (n + 1) x3_ us = (
    if (128 : Int32) ≤ x3_ then
      some (x3_, us)
    else
      (ldI 128 us x3_).bind fun v23 =>
      if v23 = (0 : Int32) then
        (stZ 128 us x3_ (0 : Int32)).bind fun us_25 =>
        fX1_press_L124 li n (x3_ + (1 : Int32)) us_25
      else
        (ldI 128 li x3_).bind fun v26 =>
        if v26 = (0 : Int32) then
          (stZ 128 us x3_ (0 : Int32)).bind fun us_28 =>
          fX1_press_L124 li n (x3_ + (1 : Int32)) us_28
        else
          (stZ 128 us x3_ (1 : Int32)).bind fun us_29 =>
          fX1_press_L124 li n (x3_ + (1 : Int32)) us_29) := rfl
def fX1_press_L173 (x2_ : Int32) (ne : Nat → Int32) : Nat → Int32 → (Nat → Int32) → Option (Int32 × (Nat → Int32))
  | 0, _, _ => none
  | n + 1, x3_, od =>
    if x2_ ≤ x3_ then
      some (x3_, od)
    else
      (ldI 128 ne x3_).bind fun v33 =>
      (stI 128 od x3_ v33).bind fun od_34 =>
      fX1_press_L173 x2_ ne n (x3_ + (1 : Int32)) od_34
theorem fX1_press_L173_s (x2_ : Int32) (ne : Nat → Int32) (n : Nat) (x3_ : Int32) (od : Nat → Int32) : fX1_press_L173 x2_ ne (n + 1) x3_ od = (
    if x2_ ≤ x3_ then
      some (x3_, od)
    else
      (ldI 128 ne x3_).bind fun v33 =>
      (stI 128 od x3_ v33).bind fun od_34 =>
      fX1_press_L173 x2_ ne n (x3_ + (1 : Int32)) od_34) := rfl
def fX1_press (us : Nat → Int32) (fi : Nat → Int32) (ki : Nat → Int32) (va : Nat → Int32) (li : Nat → Int32) (ct : Int32) (od : Nat → Int32) (ne : Nat → Int32) (ro : Nat → Int32) (x1 : Int32) : Option ((Nat → Int32) × (Nat → Int32) × (Nat → Int32) × Int32 × (Nat → Int32) × (Nat → Int32)) :=
  (fX1_findAlive fi ki va li ro ).bind fun li_1 =>
  (fX1_countAlive li_1 ct od ).bind fun v2 =>
  (fX1_press_L11 us fi ki li_1 FU (0 : Int32) va).bind fun (x_18, va_19) =>
  if x1 = (1 : Int32) then
    (fX1_fillGaps li_1 ct od ne ).bind fun ne_37 =>
    (fX1_press_L124 li_1 FU (0 : Int32) us).bind fun (x_38, us_39) =>
    (fX1_press_L173 v2 ne_37 FU (0 : Int32) od).bind fun (x_40, od_41) =>
    some (us_39, va_19, li_1, v2, od_41, ne_37)
  else
    (fX1_keepOrder li_1 ct od ne ).bind fun ne_21 =>
    (fX1_press_L124 li_1 FU (0 : Int32) us).bind fun (x_30, us_31) =>
    (fX1_press_L173 v2 ne_21 FU (0 : Int32) od).bind fun (x_35, od_36) =>
    some (us_31, va_19, li_1, v2, od_36, ne_21)
def fX1_make_L2 (us : Nat → Int32) : Nat → Int32 → Option (Int32)
  | 0, _ => none
  | n + 1, x3_ =>
    (ldI 128 us x3_).bind fun v1 =>
    if v1 = (0 : Int32) then
      some x3_
    else
      fX1_make_L2 us n (x3_ + (1 : Int32))
theorem fX1_make_L2_s (us : Nat → Int32) (n : Nat) (x3_ : Int32) : fX1_make_L2 us (n + 1) x3_ = (
    (ldI 128 us x3_).bind fun v1 =>
    if v1 = (0 : Int32) then
      some x3_
    else
      fX1_make_L2 us n (x3_ + (1 : Int32))) := rfl
def fX1_make_L54 (x3_ : Int32) : Nat → Int32 → (Nat → Int32) → (Nat → Int32) → Option (Int32 × (Nat → Int32) × (Nat → Int32))
  | 0, _, _, _ => none
  | n + 1, x4_, ki, va =>
    if (6 : Int32) ≤ x4_ then
      some (x4_, ki, va)
    else
      (stI 768 ki (((6 : Int32) * x3_) + x4_) (0 : Int32)).bind fun ki_8 =>
      (stI 768 va (((6 : Int32) * x3_) + x4_) (0 : Int32)).bind fun va_9 =>
      fX1_make_L54 x3_ n (x4_ + (1 : Int32)) ki_8 va_9
theorem fX1_make_L54_s (x3_ : Int32) (n : Nat) (x4_ : Int32) (ki : Nat → Int32) (va : Nat → Int32) : fX1_make_L54 x3_ (n + 1) x4_ ki va = (
    if (6 : Int32) ≤ x4_ then
      some (x4_, ki, va)
    else
      (stI 768 ki (((6 : Int32) * x3_) + x4_) (0 : Int32)).bind fun ki_8 =>
      (stI 768 va (((6 : Int32) * x3_) + x4_) (0 : Int32)).bind fun va_9 =>
      fX1_make_L54 x3_ n (x4_ + (1 : Int32)) ki_8 va_9) := rfl
def fX1_make (mk : Int32) (us : Nat → Int32) (fi : Nat → Int32) (se : Nat → Int32) (ki : Nat → Int32) (va : Nat → Int32) (ct : Int32) (od : Nat → Int32) (ro : Nat → Int32) (x1 : Int32) (x2 : Int32) : Option (Int32 × Int32 × (Nat → Int32) × (Nat → Int32) × (Nat → Int32) × (Nat → Int32) × (Nat → Int32) × Int32 × (Nat → Int32) × (Nat → Int32)) :=
  (fX1_make_L2 us FU (0 : Int32)).bind fun x_3 =>
  (stZ 128 us x_3 (1 : Int32)).bind fun us_4 =>
  (stI 128 fi x_3 x2).bind fun fi_5 =>
  (stI 128 se x_3 (mk + (1 : Int32))).bind fun se_6 =>
  (fX1_make_L54 x_3 FU (0 : Int32) ki va).bind fun (x_10, ki_11, va_12) =>
  (stI 128 od ct x_3).bind fun od_13 =>
  (stI 8 ro x1 x_3).bind fun ro_14 =>
  some (mk + (1 : Int32), mk + (1 : Int32), us_4, fi_5, se_6, ki_11, va_12, ct + (1 : Int32), od_13, ro_14)
def fX1_isRoot (x0 : Int32) : Option (Int32) :=
  if x0 < (0 : Int32) then
    some (0 : Int32)
  else
    if (7 : Int32) < x0 then
      some (0 : Int32)
    else
      some (1 : Int32)
def fX1_isFields (x0 : Int32) : Option (Int32) :=
  if x0 < (0 : Int32) then
    some (0 : Int32)
  else
    if (6 : Int32) < x0 then
      some (0 : Int32)
    else
      some (1 : Int32)
def fX1_fits (fi : Nat → Int32) (ct : Int32) (od : Nat → Int32) (x1 : Int32) : Option (Int32) :=
  (fX1_topNow fi ct od ).bind fun v1 =>
  if (256 : Int32) < ((v1 + x1) + (2 : Int32)) then
    some (0 : Int32)
  else
    some (1 : Int32)
def fX1_compact (th : Int32) (us : Nat → Int32) (fi : Nat → Int32) (ki : Nat → Int32) (va : Nat → Int32) (li : Nat → Int32) (ct : Int32) (od : Nat → Int32) (ne : Nat → Int32) (ro : Nat → Int32) (x1 : Int32) : Option (Int32 × Int32 × (Nat → Int32) × (Nat → Int32) × (Nat → Int32) × Int32 × (Nat → Int32) × (Nat → Int32)) :=
  if x1 < (0 : Int32) then
    some ((0 : Int32), (1 : Int32), us, va, li, ct, od, ne)
  else
    if x1 ≤ (2 : Int32) then
      if x1 = (1 : Int32) then
        (fX1_oneSize fi ct od ).bind fun v12 =>
        if v12 = (0 : Int32) then
          some ((0 : Int32), (2 : Int32), us, va, li, ct, od, ne)
        else
          (fX1_topNow fi ct od ).bind fun v14 =>
          (fX1_press us fi ki va li ct od ne ro x1).bind fun (us_15, va_16, li_17, ct_18, od_19, ne_20) =>
          (fX1_topNow fi ct_18 od_19 ).bind fun v21 =>
          some (v14 - v21, (0 : Int32), us_15, va_16, li_17, ct_18, od_19, ne_20)
      else
        (fX1_topNow fi ct od ).bind fun v4 =>
        (fX1_press us fi ki va li ct od ne ro x1).bind fun (us_5, va_6, li_7, ct_8, od_9, ne_10) =>
        (fX1_topNow fi ct_8 od_9 ).bind fun v11 =>
        some (v4 - v11, (0 : Int32), us_5, va_6, li_7, ct_8, od_9, ne_10)
    else
      some ((0 : Int32), (1 : Int32), us, va, li, ct, od, ne)
def fX1_allocate (th : Int32) (mk : Int32) (us : Nat → Int32) (fi : Nat → Int32) (se : Nat → Int32) (ki : Nat → Int32) (va : Nat → Int32) (ct : Int32) (od : Nat → Int32) (ro : Nat → Int32) (x1 : Int32) (x2 : Int32) : Option (Int32 × Int32 × Int32 × (Nat → Int32) × (Nat → Int32) × (Nat → Int32) × (Nat → Int32) × (Nat → Int32) × Int32 × (Nat → Int32) × (Nat → Int32)) :=
  (fX1_isRoot x1).bind fun v1 =>
  if v1 = (0 : Int32) then
    some ((0 : Int32), (1 : Int32), mk, us, fi, se, ki, va, ct, od, ro)
  else
    (fX1_isFields x2).bind fun v3 =>
    if v3 = (0 : Int32) then
      some ((0 : Int32), (2 : Int32), mk, us, fi, se, ki, va, ct, od, ro)
    else
      (fX1_fits fi ct od x2).bind fun v5 =>
      if v5 = (0 : Int32) then
        some ((0 : Int32), (3 : Int32), mk, us, fi, se, ki, va, ct, od, ro)
      else
        (fX1_make mk us fi se ki va ct od ro x1 x2).bind fun (v7, mk_8, us_9, fi_10, se_11, ki_12, va_13, ct_14, od_15, ro_16) =>
        some (v7, (0 : Int32), mk_8, us_9, fi_10, se_11, ki_12, va_13, ct_14, od_15, ro_16)
def fX1_claim (th : Int32) (mk : Int32) (us : Nat → Int32) (fi : Nat → Int32) (se : Nat → Int32) (ki : Nat → Int32) (va : Nat → Int32) (li : Nat → Int32) (ct : Int32) (od : Nat → Int32) (ne : Nat → Int32) (ro : Nat → Int32) (x1 : Int32) (x2 : Int32) (x3 : Int32) : Option (Int32 × Int32 × Int32 × (Nat → Int32) × (Nat → Int32) × (Nat → Int32) × (Nat → Int32) × (Nat → Int32) × (Nat → Int32) × Int32 × (Nat → Int32) × (Nat → Int32) × (Nat → Int32)) :=
  (fX1_isRoot x1).bind fun v1 =>
  if v1 = (0 : Int32) then
    some ((0 : Int32), (1 : Int32), mk, us, fi, se, ki, va, li, ct, od, ne, ro)
  else
    (fX1_isFields x2).bind fun v3 =>
    if v3 = (0 : Int32) then
      some ((0 : Int32), (2 : Int32), mk, us, fi, se, ki, va, li, ct, od, ne, ro)
    else
      if x3 < (0 : Int32) then
        some ((0 : Int32), (2 : Int32), mk, us, fi, se, ki, va, li, ct, od, ne, ro)
      else
        if x3 ≤ (2 : Int32) then
          (fX1_fits fi ct od x2).bind fun v7 =>
          if v7 = (0 : Int32) then
            if x3 = (1 : Int32) then
              (fX1_oneSize fi ct od ).bind fun v38 =>
              if v38 = (0 : Int32) then
                some ((0 : Int32), (3 : Int32), mk, us, fi, se, ki, va, li, ct, od, ne, ro)
              else
                (fX1_press us fi ki va li ct od ne ro x3).bind fun (us_40, va_41, li_42, ct_43, od_44, ne_45) =>
                (fX1_fits fi ct_43 od_44 x2).bind fun v46 =>
                if v46 = (0 : Int32) then
                  some ((0 : Int32), (4 : Int32), mk, us_40, fi, se, ki, va_41, li_42, ct_43, od_44, ne_45, ro)
                else
                  (fX1_make mk us_40 fi se ki va_41 ct_43 od_44 ro x1 x2).bind fun (v48, mk_49, us_50, fi_51, se_52, ki_53, va_54, ct_55, od_56, ro_57) =>
                  some (v48, (0 : Int32), mk_49, us_50, fi_51, se_52, ki_53, va_54, li_42, ct_55, od_56, ne_45, ro_57)
            else
              (fX1_press us fi ki va li ct od ne ro x3).bind fun (us_20, va_21, li_22, ct_23, od_24, ne_25) =>
              (fX1_fits fi ct_23 od_24 x2).bind fun v26 =>
              if v26 = (0 : Int32) then
                some ((0 : Int32), (4 : Int32), mk, us_20, fi, se, ki, va_21, li_22, ct_23, od_24, ne_25, ro)
              else
                (fX1_make mk us_20 fi se ki va_21 ct_23 od_24 ro x1 x2).bind fun (v28, mk_29, us_30, fi_31, se_32, ki_33, va_34, ct_35, od_36, ro_37) =>
                some (v28, (0 : Int32), mk_29, us_30, fi_31, se_32, ki_33, va_34, li_22, ct_35, od_36, ne_25, ro_37)
          else
            (fX1_make mk us fi se ki va ct od ro x1 x2).bind fun (v9, mk_10, us_11, fi_12, se_13, ki_14, va_15, ct_16, od_17, ro_18) =>
            some (v9, (0 : Int32), mk_10, us_11, fi_12, se_13, ki_14, va_15, li, ct_16, od_17, ne, ro_18)
        else
          some ((0 : Int32), (2 : Int32), mk, us, fi, se, ki, va, li, ct, od, ne, ro)
def fX1_copy (th : Int32) (ro : Nat → Int32) (x1 : Int32) (x2 : Int32) : Option (Int32 × (Nat → Int32)) :=
  (fX1_isRoot x1).bind fun v1 =>
  if v1 = (0 : Int32) then
    some ((1 : Int32), ro)
  else
    (fX1_isRoot x2).bind fun v3 =>
    if v3 = (0 : Int32) then
      some ((1 : Int32), ro)
    else
      (ldI 8 ro x2).bind fun v5 =>
      (stI 8 ro x1 v5).bind fun ro_6 =>
      some ((0 : Int32), ro_6)
def fX1_clear (th : Int32) (ro : Nat → Int32) (x1 : Int32) : Option (Int32 × (Nat → Int32)) :=
  (fX1_isRoot x1).bind fun v1 =>
  if v1 = (0 : Int32) then
    some ((1 : Int32), ro)
  else
    (stI 8 ro x1 (-1 : Int32)).bind fun ro_3 =>
    some ((0 : Int32), ro_3)
def fX1_bar (fi : Nat → Int32) (ro : Nat → Int32) (x1 : Int32) (x2 : Int32) : Option (Int32) :=
  (fX1_isRoot x1).bind fun v1 =>
  if v1 = (0 : Int32) then
    some (1 : Int32)
  else
    (ldI 8 ro x1).bind fun v3 =>
    if (0 : Int32) ≤ v3 then
      if x2 < (0 : Int32) then
        some (1 : Int32)
      else
        (ldI 8 ro x1).bind fun v6 =>
        (ldI 128 fi v6).bind fun v7 =>
        if x2 < v7 then
          some (0 : Int32)
        else
          some (1 : Int32)
    else
      some (2 : Int32)
def fX1_set (ki : Nat → Int32) (va : Nat → Int32) (ro : Nat → Int32) (x1 : Int32) (x2 : Int32) (x3 : Int32) (x4 : Int32) : Option ((Nat → Int32) × (Nat → Int32)) :=
  (ldI 8 ro x1).bind fun v1 =>
  (stI 768 ki (((6 : Int32) * v1) + x2) x3).bind fun ki_2 =>
  (ldI 8 ro x1).bind fun v3 =>
  (stI 768 va (((6 : Int32) * v3) + x2) x4).bind fun va_4 =>
  some (ki_2, va_4)
def fX1_put (th : Int32) (fi : Nat → Int32) (ki : Nat → Int32) (va : Nat → Int32) (ro : Nat → Int32) (x1 : Int32) (x2 : Int32) (x3 : Int32) : Option (Int32 × (Nat → Int32) × (Nat → Int32)) :=
  (fX1_bar fi ro x1 x2).bind fun v1 =>
  if v1 = (0 : Int32) then
    (fX1_set ki va ro x1 x2 (0 : Int32) x3).bind fun (ki_3, va_4) =>
    some (v1, ki_3, va_4)
  else
    some (v1, ki, va)
def fX1_refer (th : Int32) (fi : Nat → Int32) (ki : Nat → Int32) (va : Nat → Int32) (ro : Nat → Int32) (x1 : Int32) (x2 : Int32) (x3 : Int32) (x4 : Int32) : Option (Int32 × (Nat → Int32) × (Nat → Int32)) :=
  (fX1_isRoot x3).bind fun v1 =>
  if v1 = (0 : Int32) then
    some ((1 : Int32), ki, va)
  else
    (fX1_bar fi ro x1 x2).bind fun v3 =>
    if v3 = (0 : Int32) then
      if x4 = (0 : Int32) then
        (ldI 8 ro x3).bind fun v6 =>
        (fX1_set ki va ro x1 x2 (1 : Int32) v6).bind fun (ki_7, va_8) =>
        some (v3, ki_7, va_8)
      else
        (ldI 8 ro x3).bind fun v9 =>
        (fX1_set ki va ro x1 x2 (2 : Int32) v9).bind fun (ki_10, va_11) =>
        some (v3, ki_10, va_11)
    else
      some (v3, ki, va)
def fX1_follow (th : Int32) (fi : Nat → Int32) (ki : Nat → Int32) (va : Nat → Int32) (ro : Nat → Int32) (x1 : Int32) (x2 : Int32) (x3 : Int32) : Option (Int32 × Int32 × (Nat → Int32)) :=
  (fX1_isRoot x3).bind fun v1 =>
  if v1 = (0 : Int32) then
    some ((0 : Int32), (1 : Int32), ro)
  else
    (fX1_bar fi ro x1 x2).bind fun v3 =>
    if v3 = (0 : Int32) then
      (ldI 8 ro x1).bind fun v11 =>
      (ldI 768 ki (((6 : Int32) * v11) + x2)).bind fun v12 =>
      if v12 = (0 : Int32) then
        some ((0 : Int32), (3 : Int32), ro)
      else
        if v3 ≤ (0 : Int32) then
          (ldI 8 ro x1).bind fun v15 =>
          (ldI 768 va (((6 : Int32) * v15) + x2)).bind fun v16 =>
          (stI 8 ro x3 v16).bind fun ro_17 =>
          (ldI 8 ro_17 x3).bind fun v18 =>
          if v18 < (0 : Int32) then
            some ((0 : Int32), v3, ro_17)
          else
            some ((1 : Int32), v3, ro_17)
        else
          some ((0 : Int32), v3, ro)
    else
      if v3 ≤ (0 : Int32) then
        (ldI 8 ro x1).bind fun v6 =>
        (ldI 768 va (((6 : Int32) * v6) + x2)).bind fun v7 =>
        (stI 8 ro x3 v7).bind fun ro_8 =>
        (ldI 8 ro_8 x3).bind fun v9 =>
        if v9 < (0 : Int32) then
          some ((0 : Int32), v3, ro_8)
        else
          some ((1 : Int32), v3, ro_8)
      else
        some ((0 : Int32), v3, ro)
def fX1_kind (th : Int32) (fi : Nat → Int32) (ki : Nat → Int32) (ro : Nat → Int32) (x1 : Int32) (x2 : Int32) : Option (Int32 × Int32) :=
  (fX1_bar fi ro x1 x2).bind fun v1 =>
  if v1 ≤ (0 : Int32) then
    (ldI 8 ro x1).bind fun v3 =>
    (ldI 768 ki (((6 : Int32) * v3) + x2)).bind fun v4 =>
    some (v4, v1)
  else
    some ((0 : Int32), v1)
def fX1_serial (th : Int32) (se : Nat → Int32) (ro : Nat → Int32) (x1 : Int32) : Option (Int32 × Int32) :=
  (fX1_isRoot x1).bind fun v1 =>
  if v1 = (0 : Int32) then
    some ((0 : Int32), (1 : Int32))
  else
    (ldI 8 ro x1).bind fun v3 =>
    if (0 : Int32) ≤ v3 then
      (ldI 8 ro x1).bind fun v5 =>
      (ldI 128 se v5).bind fun v6 =>
      some (v6, (0 : Int32))
    else
      some ((-1 : Int32), (0 : Int32))
def fX1_address (th : Int32) (fi : Nat → Int32) (ct : Int32) (od : Nat → Int32) (ro : Nat → Int32) (x1 : Int32) : Option (Int32 × Int32) :=
  (fX1_isRoot x1).bind fun v1 =>
  if v1 = (0 : Int32) then
    some ((0 : Int32), (1 : Int32))
  else
    (ldI 8 ro x1).bind fun v3 =>
    (fX1_addressOf fi ct od v3).bind fun v4 =>
    some (v4, (0 : Int32))
def fX1_wordOf_L65 (x1_ : Int32) (fi : Nat → Int32) (ki : Nat → Int32) : Nat → Int32 → Int32 → Option (Int32 × Int32)
  | 0, _, _ => none
  | n + 1, x3_, x4_ =>
    (ldI 128 fi x1_).bind fun v4 =>
    if v4 ≤ x4_ then
      some (x3_, x4_)
    else
      (ldI 768 ki (((6 : Int32) * x1_) + x4_)).bind fun v6 =>
      if v6 = (1 : Int32) then
        fX1_wordOf_L65 x1_ fi ki n (x3_ + ((16 : Int32) * ((1 : Int32) <<< (x4_ &&& 31)))) (x4_ + (1 : Int32))
      else
        (ldI 768 ki (((6 : Int32) * x1_) + x4_)).bind fun v8 =>
        if v8 = (2 : Int32) then
          fX1_wordOf_L65 x1_ fi ki n (x3_ + ((1024 : Int32) * ((1 : Int32) <<< (x4_ &&& 31)))) (x4_ + (1 : Int32))
        else
          fX1_wordOf_L65 x1_ fi ki n x3_ (x4_ + (1 : Int32))
theorem fX1_wordOf_L65_s (x1_ : Int32) (fi : Nat → Int32) (ki : Nat → Int32) (n : Nat) (x3_ : Int32) (x4_ : Int32) : fX1_wordOf_L65 x1_ fi ki (n + 1) x3_ x4_ = (
    (ldI 128 fi x1_).bind fun v4 =>
    if v4 ≤ x4_ then
      some (x3_, x4_)
    else
      (ldI 768 ki (((6 : Int32) * x1_) + x4_)).bind fun v6 =>
      if v6 = (1 : Int32) then
        fX1_wordOf_L65 x1_ fi ki n (x3_ + ((16 : Int32) * ((1 : Int32) <<< (x4_ &&& 31)))) (x4_ + (1 : Int32))
      else
        (ldI 768 ki (((6 : Int32) * x1_) + x4_)).bind fun v8 =>
        if v8 = (2 : Int32) then
          fX1_wordOf_L65 x1_ fi ki n (x3_ + ((1024 : Int32) * ((1 : Int32) <<< (x4_ &&& 31)))) (x4_ + (1 : Int32))
        else
          fX1_wordOf_L65 x1_ fi ki n x3_ (x4_ + (1 : Int32))) := rfl
def fX1_wordOf (fi : Nat → Int32) (se : Nat → Int32) (ki : Nat → Int32) (va : Nat → Int32) (ct : Int32) (od : Nat → Int32) (x1 : Int32) (x2 : Int32) : Option (Int32) :=
  if x2 = (1 : Int32) then
    (ldI 128 se x1).bind fun v17 =>
    some v17
  else
    if x2 ≤ (1 : Int32) then
      (ldI 128 fi x1).bind fun v3 =>
      (fX1_wordOf_L65 x1 fi ki FU v3 (0 : Int32)).bind fun (x_10, x_11) =>
      some x_10
    else
      (ldI 768 ki ((((6 : Int32) * x1) + x2) - (2 : Int32))).bind fun v12 =>
      if v12 = (0 : Int32) then
        (ldI 768 va ((((6 : Int32) * x1) + x2) - (2 : Int32))).bind fun v16 =>
        some v16
      else
        (ldI 768 va ((((6 : Int32) * x1) + x2) - (2 : Int32))).bind fun v14 =>
        (fX1_addressOf fi ct od v14).bind fun v15 =>
        some v15
def fX1_word_L33 (x1_ : Int32) (fi : Nat → Int32) (se : Nat → Int32) (ki : Nat → Int32) (va : Nat → Int32) (ct : Int32) (od : Nat → Int32) : Nat → Int32 → Int32 → Option (Nat × Int32 × Int32 × Int32)
  | 0, _, _ => none
  | n + 1, x2_, x3_ =>
    if ct ≤ x3_ then
      some (0, x2_, x3_, 0)
    else
      (ldI 128 od x3_).bind fun v4 =>
      (ldI 128 fi v4).bind fun v5 =>
      if (x2_ + (v5 + (2 : Int32))) ≤ x1_ then
        fX1_word_L33 x1_ fi se ki va ct od n (x2_ + (v5 + (2 : Int32))) (x3_ + (1 : Int32))
      else
        (ldI 128 od x3_).bind fun v7 =>
        (fX1_wordOf fi se ki va ct od v7 (x1_ - x2_)).bind fun v8 =>
        some (1, x2_, x3_, v8)
theorem fX1_word_L33_s (x1_ : Int32) (fi : Nat → Int32) (se : Nat → Int32) (ki : Nat → Int32) (va : Nat → Int32) (ct : Int32) (od : Nat → Int32) (n : Nat) (x2_ : Int32) (x3_ : Int32) : fX1_word_L33 x1_ fi se ki va ct od (n + 1) x2_ x3_ = (
    if ct ≤ x3_ then
      some (0, x2_, x3_, 0)
    else
      (ldI 128 od x3_).bind fun v4 =>
      (ldI 128 fi v4).bind fun v5 =>
      if (x2_ + (v5 + (2 : Int32))) ≤ x1_ then
        fX1_word_L33 x1_ fi se ki va ct od n (x2_ + (v5 + (2 : Int32))) (x3_ + (1 : Int32))
      else
        (ldI 128 od x3_).bind fun v7 =>
        (fX1_wordOf fi se ki va ct od v7 (x1_ - x2_)).bind fun v8 =>
        some (1, x2_, x3_, v8)) := rfl
def fX1_word (th : Int32) (fi : Nat → Int32) (se : Nat → Int32) (ki : Nat → Int32) (va : Nat → Int32) (ct : Int32) (od : Nat → Int32) (x1 : Int32) : Option (Int32 × Int32) :=
  if x1 < (0 : Int32) then
    some ((0 : Int32), (1 : Int32))
  else
    if (256 : Int32) ≤ x1 then
      some ((0 : Int32), (1 : Int32))
    else
      (fX1_word_L33 x1 fi se ki va ct od FU (0 : Int32) (0 : Int32)).bind fun (t11, x_9, x_10, y12) =>
      if t11 = 0 then
        some ((0 : Int32), (0 : Int32))
      else
        some (y12, (0 : Int32))
def fX1_top (th : Int32) (fi : Nat → Int32) (ct : Int32) (od : Nat → Int32) : Option (Int32 × Int32) :=
  (fX1_topNow fi ct od ).bind fun v1 =>
  some (v1, (0 : Int32))
def fX1_objects (th : Int32) (ct : Int32) : Option (Int32 × Int32) :=
  some (ct, (0 : Int32))
def fX1_alive (th : Int32) (fi : Nat → Int32) (ki : Nat → Int32) (va : Nat → Int32) (li : Nat → Int32) (ct : Int32) (od : Nat → Int32) (ro : Nat → Int32) : Option (Int32 × Int32 × (Nat → Int32)) :=
  (fX1_findAlive fi ki va li ro ).bind fun li_1 =>
  (fX1_countAlive li_1 ct od ).bind fun v2 =>
  some (v2, (0 : Int32), li_1)
