def fn_CT_within (a1 : Int32) (a2 : Int32) (a3 : Int32) : Option Int32 :=
  if a1 < a2 then
    some 0
  else
    if a3 < a1 then
      some 0
    else
      some 1
def fn_CT_check (s : CS) (a1 : Int32) : Option ((Nat × CS) ⊕ CS) :=
  if ¬ a1 = 0 then
    some (.inr s)
  else
    some (.inl (1, s))
def fn_CT_isLine (a1 : Int32) : Option Int32 :=
  ct_ob (fn_CT_within a1 0 1) fun x1 =>
  ct_gd (ct_isB x1) <|
  some x1
def bk_CT_checkMonths_25 (a1 : Int32) (a2 : Int32) (s : CS) (t0 : Int32) : Option ((Nat × CS) ⊕ CS) :=
  ct_xb (fn_CT_check s t0) fun s3 =>
  some (.inr s3)
def fn_CT_checkMonths (s : CS) (a1 : Int32) (a2 : Int32) : Option ((Nat × CS) ⊕ CS) :=
  ct_ob (fn_CT_within a1 0 71) fun x1 =>
  if x1 = 0 then
    bk_CT_checkMonths_25 a1 a2 s 0
  else
    ct_ob (fn_CT_within a2 a1 71) fun x2 =>
    if x2 = 0 then
      bk_CT_checkMonths_25 a1 a2 s 0
    else
      bk_CT_checkMonths_25 a1 a2 s 1
def fn_Le_append (s : CS) (a1 : Int32) (a2 : Int32) (a3 : Int32) (a4 : Int32) (a5 : Int32) : Option (Int32 × CS) :=
  ct_nm (cs_I s 0) fun x1 =>
  ct_gd (ct_inR x1 60) <|
  ct_nm (cs_A' s 0 x1.toNatClampNeg a1) fun s2 =>
  ct_gd (ct_inR x1 60) <|
  ct_nm (cs_A' s2 1 x1.toNatClampNeg a2) fun s3 =>
  ct_gd (ct_inR x1 60) <|
  ct_nm (cs_A' s3 2 x1.toNatClampNeg a3) fun s4 =>
  ct_gd (ct_inR x1 60) <|
  ct_nm (cs_A' s4 3 x1.toNatClampNeg a4) fun s5 =>
  ct_gd (ct_inR x1 60) <|
  ct_nm (cs_A' s5 4 x1.toNatClampNeg (vp_nar .boolean a5)) fun s6 =>
  ct_gd (ct_inR x1 60) <|
  ct_nm (cs_A' s6 5 x1.toNatClampNeg (vp_nar .boolean 1)) fun s7 =>
  ct_nm (cs_I' s7 0 ((cs_I s7 0) + 1)) fun s8 =>
  some (x1, s8)
def bk_Tr_clear_10_o (k2 : CS → Int32 → Option CS) (k10 : CS → Int32 → Int32 → Option CS) (s : CS) (v1 : Int32) (v2 : Int32) : Option CS :=
  if 6 ≤ v2 then
    k2 s (v1 + 1)
  else
    ct_gd (ct_inR v1 6) <|
    ct_gd (ct_inR v2 6) <|
    ct_nm (cs_R' s v1.toNatClampNeg v2.toNatClampNeg 0) fun s1 =>
    k10 s1 v1 (v2 + 1)
def bk_Tr_clear_10 (k2 : CS → Int32 → Option CS) : Nat → CS → Int32 → Int32 → Option CS
  | 0 => fun _ _ _ => none
  | n + 1 => bk_Tr_clear_10_o k2 (bk_Tr_clear_10 k2 n)
def bk_Tr_clear_2_o (k2 : CS → Int32 → Option CS) (s : CS) (v1 : Int32) : Option CS :=
  if 6 ≤ v1 then
    some s
  else
    bk_Tr_clear_10 k2 200 s v1 0
def bk_Tr_clear_2 : Nat → CS → Int32 → Option CS
  | 0 => fun _ _ => none
  | n + 1 => bk_Tr_clear_2_o (bk_Tr_clear_2 n)
def fn_Tr_clear (s : CS) : Option CS :=
  bk_Tr_clear_2 200 s 0
def fn_Le_livesIn (s : CS) (a1 : Int32) (a2 : Int32) : Option Int32 :=
  ct_gd (ct_inR a1 60) <|
  if (cs_A s 5 a1.toNatClampNeg) = 0 then
    some 0
  else
    ct_gd (ct_inR a1 60) <|
    if ¬ (cs_A s 0 a1.toNatClampNeg) = a2 then
      some 0
    else
      some 1
def fn_Tr_add (s : CS) (a1 : Int32) (a2 : Int32) (a3 : Int32) : Option CS :=
  ct_gd (ct_gzI (cs_I s 2)) <|
  ct_nm (a1 / (cs_I s 2)) fun x1 =>
  ct_gd (ct_gzI (cs_I s 2)) <|
  ct_nm (a2 / (cs_I s 2)) fun x2 =>
  if (cs_I s 4) ≤ x2 then
    some s
  else
    ct_gd (ct_inR x1 6) <|
    ct_gd (ct_inR (x2 - x1) 6) <|
    ct_gd (ct_inR (x2 - x1) 6) <|
    ct_nm (cs_R' s x1.toNatClampNeg (x2 - x1).toNatClampNeg ((cs_R s x1.toNatClampNeg (x2 - x1).toNatClampNeg) + a3)) fun s3 =>
    some s3
def fn_Le_replaces (s : CS) (a1 : Int32) (a2 : Int32) : Option Int32 :=
  ct_gd (ct_inR a1 60) <|
  if (cs_A s 4 a1.toNatClampNeg) = 0 then
    some 0
  else
    ct_gd (ct_inR a2 60) <|
    ct_ob (fn_Le_livesIn s a1 (cs_A s 0 a2.toNatClampNeg)) fun x1 =>
    if ¬ x1 = 0 then
      ct_gd (ct_inR a1 60) <|
      ct_gd (ct_inR a2 60) <|
      if (cs_A s 1 a1.toNatClampNeg) = (cs_A s 1 a2.toNatClampNeg) then
        ct_gd (ct_inR a1 60) <|
        ct_gd (ct_inR a2 60) <|
        if (cs_A s 2 a2.toNatClampNeg) < (cs_A s 2 a1.toNatClampNeg) then
          some 1
        else
          ct_gd (ct_inR a1 60) <|
          ct_gd (ct_inR a2 60) <|
          if ¬ (cs_A s 2 a1.toNatClampNeg) = (cs_A s 2 a2.toNatClampNeg) then
            some 0
          else
            if a1 ≤ a2 then
              some 0
            else
              some 1
      else
        some 0
    else
      some 0
def bk_Le_replacedIn_39 (a1 : Int32) (k5 : CS → Int32 → Int32 → Option Int32) (s : CS) (v2 : Int32) (v3 : Int32) : Option Int32 :=
  k5 s v2 (v3 + 1)
def bk_Le_replacedIn_5_o (a1 : Int32) (k5 : CS → Int32 → Int32 → Option Int32) (s : CS) (v2 : Int32) (v3 : Int32) : Option Int32 :=
  if (cs_I s 0) ≤ v3 then
    some v2
  else
    ct_ob (fn_Le_replaces s v3 a1) fun x1 =>
    if x1 = 0 then
      bk_Le_replacedIn_39 a1 k5 s v2 v3
    else
      ct_gd (ct_inR v3 60) <|
      if v2 ≤ (cs_A s 2 v3.toNatClampNeg) then
        bk_Le_replacedIn_39 a1 k5 s v2 v3
      else
        ct_gd (ct_inR v3 60) <|
        ct_nm (cs_A s 2 v3.toNatClampNeg) fun x2 =>
        bk_Le_replacedIn_39 a1 k5 s x2 v3
def bk_Le_replacedIn_5 (a1 : Int32) : Nat → CS → Int32 → Int32 → Option Int32
  | 0 => fun _ _ _ => none
  | n + 1 => bk_Le_replacedIn_5_o a1 (bk_Le_replacedIn_5 a1 n)
def fn_Le_replacedIn (s : CS) (a1 : Int32) : Option Int32 :=
  bk_Le_replacedIn_5 a1 200 s 72 0
def fn_Tr_addEstimate (s : CS) (a2 : Int32) : Option CS :=
  ct_gd (ct_inR a2 60) <|
  ct_nm (cs_A s 1 a2.toNatClampNeg) fun x1 =>
  ct_gd (ct_inR a2 60) <|
  ct_nm (cs_A s 3 a2.toNatClampNeg) fun x2 =>
  ct_gd (ct_inR a2 60) <|
  ct_ob (fn_Tr_add s x1 (cs_A s 2 a2.toNatClampNeg) x2) fun s3 =>
  ct_ob (fn_Le_replacedIn s3 a2) fun x4 =>
  ct_ob (fn_Tr_add s3 x1 x4 (-x2)) fun s5 =>
  some s5
def bk_Tr_accumulate_12_o (k2 : CS → Int32 → Option CS) (k12 : CS → Int32 → Int32 → Option CS) (s : CS) (v1 : Int32) (v2 : Int32) : Option CS :=
  if ((cs_I s 4) - v1) ≤ v2 then
    k2 s (v1 + 1)
  else
    ct_gd (ct_inR v1 6) <|
    ct_gd (ct_inR v2 6) <|
    ct_gd (ct_inR v1 6) <|
    ct_gd (ct_inR (v2 - 1) 6) <|
    ct_gd (ct_inR v2 6) <|
    ct_nm (cs_R' s v1.toNatClampNeg v2.toNatClampNeg ((cs_R s v1.toNatClampNeg v2.toNatClampNeg) + (cs_R s v1.toNatClampNeg (v2 - 1).toNatClampNeg))) fun s1 =>
    k12 s1 v1 (v2 + 1)
def bk_Tr_accumulate_12 (k2 : CS → Int32 → Option CS) : Nat → CS → Int32 → Int32 → Option CS
  | 0 => fun _ _ _ => none
  | n + 1 => bk_Tr_accumulate_12_o k2 (bk_Tr_accumulate_12 k2 n)
def bk_Tr_accumulate_2_o (k2 : CS → Int32 → Option CS) (s : CS) (v1 : Int32) : Option CS :=
  if (cs_I s 4) ≤ v1 then
    some s
  else
    bk_Tr_accumulate_12 k2 200 s v1 1
def bk_Tr_accumulate_2 : Nat → CS → Int32 → Option CS
  | 0 => fun _ _ => none
  | n + 1 => bk_Tr_accumulate_2_o (bk_Tr_accumulate_2 n)
def fn_Tr_accumulate (s : CS) : Option CS :=
  bk_Tr_accumulate_2 200 s 0
def bk_Tr_fill_76 (k6 : CS → Int32 → Option CS) (s : CS) (v2 : Int32) : Option CS :=
  k6 s (v2 + 1)
def bk_Tr_fill_6_o (k6 : CS → Int32 → Option CS) (s : CS) (v2 : Int32) : Option CS :=
  if (cs_I s 0) ≤ v2 then
    ct_ob (fn_Tr_accumulate s) fun s2 =>
    some s2
  else
    ct_ob (fn_Le_livesIn s v2 (cs_I s 1)) fun x3 =>
    if ¬ x3 = 0 then
      ct_gd (ct_inR v2 60) <|
      if ¬ (cs_A s 4 v2.toNatClampNeg) = 0 then
        if (cs_I s 3) = 0 then
          bk_Tr_fill_76 k6 s v2
        else
          ct_ob (fn_Tr_addEstimate s v2) fun s4 =>
          bk_Tr_fill_76 k6 s4 v2
      else
        ct_gd (ct_inR v2 60) <|
        ct_gd (ct_inR v2 60) <|
        ct_gd (ct_inR v2 60) <|
        ct_ob (fn_Tr_add s (cs_A s 1 v2.toNatClampNeg) (cs_A s 2 v2.toNatClampNeg) (cs_A s 3 v2.toNatClampNeg)) fun s5 =>
        bk_Tr_fill_76 k6 s5 v2
    else
      bk_Tr_fill_76 k6 s v2
def bk_Tr_fill_6 : Nat → CS → Int32 → Option CS
  | 0 => fun _ _ => none
  | n + 1 => bk_Tr_fill_6_o (bk_Tr_fill_6 n)
def fn_Tr_fill (s : CS) : Option CS :=
  ct_ob (fn_Tr_clear s) fun s1 =>
  bk_Tr_fill_6 200 s1 0
def fn_CT_enter (s : CS) (a1 : Int32) (a2 : Int32) (a3 : Int32) (a4 : Int32) (a5 : Int32) : Option ((Nat × CS) ⊕ (Int32 × CS)) :=
  ct_ob (fn_CT_isLine a1) fun x1 =>
  ct_xb (fn_CT_check s x1) fun s2 =>
  ct_xb (fn_CT_checkMonths s2 a2 a3) fun s3 =>
  if (cs_I s3 0) < 60 then
    ct_ob2 (fn_Le_append s3 a1 a2 a3 a4 a5) fun x4 s5 =>
    ct_ob (fn_Tr_fill s5) fun s6 =>
    some (.inr (x4, s6))
  else
    some (.inl (2, s3))
def fn_CT_pay (s : CS) (a1 : Int32) (a2 : Int32) (a3 : Int32) (a4 : Int32) : Option ((Nat × CS) ⊕ (Int32 × CS)) :=
  ct_ob (fn_CT_within a4 (-9999) 9999) fun x1 =>
  ct_xb (fn_CT_check s x1) fun s2 =>
  ct_xb2 (fn_CT_enter s2 a1 a2 a3 a4 0) fun x3 s4 =>
  some (.inr (x3, s4))
def fn_CT_estimate (s : CS) (a1 : Int32) (a2 : Int32) (a3 : Int32) (a4 : Int32) : Option ((Nat × CS) ⊕ (Int32 × CS)) :=
  ct_ob (fn_CT_within a4 0 9999) fun x1 =>
  ct_xb (fn_CT_check s x1) fun s2 =>
  ct_xb2 (fn_CT_enter s2 a1 a2 a3 a4 1) fun x3 s4 =>
  some (.inr (x3, s4))
def fn_CT_checkEntry (s : CS) (a1 : Int32) : Option ((Nat × CS) ⊕ CS) :=
  ct_ob (fn_CT_within a1 0 ((cs_I s 0) - 1)) fun x1 =>
  ct_xb (fn_CT_check s x1) fun s2 =>
  some (.inr s2)
def fn_CT_checkLiving (s : CS) (a1 : Int32) : Option ((Nat × CS) ⊕ CS) :=
  ct_gd (ct_inR a1 60) <|
  if ¬ (cs_A s 5 a1.toNatClampNeg) = 0 then
    some (.inr s)
  else
    some (.inl (2, s))
def fn_CT_strike (s : CS) (a1 : Int32) : Option ((Nat × CS) ⊕ (Int32 × CS)) :=
  ct_xb (fn_CT_checkEntry s a1) fun s1 =>
  ct_xb (fn_CT_checkLiving s1 a1) fun s2 =>
  ct_gd (ct_inR a1 60) <|
  ct_nm (cs_A' s2 5 a1.toNatClampNeg (vp_nar .boolean 0)) fun s3 =>
  ct_ob (fn_Tr_fill s3) fun s4 =>
  ct_gd (ct_inR a1 60) <|
  some (.inr (cs_A s4 3 a1.toNatClampNeg, s4))
def fn_CT_move (s : CS) (a1 : Int32) (a2 : Int32) (a3 : Int32) : Option ((Nat × CS) ⊕ CS) :=
  ct_xb (fn_CT_checkEntry s a1) fun s1 =>
  ct_xb (fn_CT_checkMonths s1 a2 a3) fun s2 =>
  ct_xb (fn_CT_checkLiving s2 a1) fun s3 =>
  ct_gd (ct_inR a1 60) <|
  ct_nm (cs_A' s3 1 a1.toNatClampNeg a2) fun s4 =>
  ct_gd (ct_inR a1 60) <|
  ct_nm (cs_A' s4 2 a1.toNatClampNeg a3) fun s5 =>
  ct_ob (fn_Tr_fill s5) fun s6 =>
  some (.inr s6)
def bk_CT_premium_33 (a1 : Int32) (a2 : Int32) (a3 : Int32) (s : CS) (t0 : Int32) : Option ((Nat × CS) ⊕ CS) :=
  ct_xb (fn_CT_check s t0) fun s4 =>
  ct_gd (ct_inR a1 2) <|
  ct_gd (ct_inR a2 72) <|
  ct_nm (cs_P' s4 a1.toNatClampNeg a2.toNatClampNeg a3) fun s5 =>
  some (.inr s5)
def fn_CT_premium (s : CS) (a1 : Int32) (a2 : Int32) (a3 : Int32) : Option ((Nat × CS) ⊕ CS) :=
  ct_ob (fn_CT_isLine a1) fun x1 =>
  if x1 = 0 then
    bk_CT_premium_33 a1 a2 a3 s 0
  else
    ct_ob (fn_CT_within a2 0 71) fun x2 =>
    if x2 = 0 then
      bk_CT_premium_33 a1 a2 a3 s 0
    else
      ct_ob (fn_CT_within a3 0 9999) fun x3 =>
      if x3 = 0 then
        bk_CT_premium_33 a1 a2 a3 s 0
      else
        bk_CT_premium_33 a1 a2 a3 s 1
def bk_Fr_divisor_51 (a1 : Int64) (a2 : Int64) (v4 : Int64) : Option Int64 :=
  some (ct_mxL v4 1)
def bk_Fr_divisor_15_o (a1 : Int64) (a2 : Int64) (k15 : Int64 → Int64 → Int32 → Option Int64) (v4 : Int64) (v6 : Int64) (v8 : Int32) : Option Int64 :=
  if 128 ≤ v8 then
    bk_Fr_divisor_51 a1 a2 v4
  else
    if (lg_cmp v6 0) = 0 then
      bk_Fr_divisor_51 a1 a2 v4
    else
      ct_gd (ct_gzL v6) <|
      ct_nm (v4 - v4 / v6 * v6) fun x3 =>
      k15 v6 x3 (v8 + 1)
def bk_Fr_divisor_15 (a1 : Int64) (a2 : Int64) : Nat → Int64 → Int64 → Int32 → Option Int64
  | 0 => fun _ _ _ => none
  | n + 1 => bk_Fr_divisor_15_o a1 a2 (bk_Fr_divisor_15 a1 a2 n)
def fn_Fr_divisor (a1 : Int64) (a2 : Int64) : Option Int64 :=
  ct_nm (ct_abL a1) fun x1 =>
  ct_nm (ct_abL a2) fun x2 =>
  bk_Fr_divisor_15 a1 a2 200 x1 x2 0
def bk_Fr_become_33 (f : Nat) (a1 : Int64) (a2 : Int64) (s : CS) (t0 : Int64) : Option CS :=
  ct_gd (ct_gzL t0) <|
  ct_nm (cs_F0' s f (a1 / t0)) fun s3 =>
  ct_gd (ct_gzL t0) <|
  ct_nm (cs_F1' s3 f (a2 / t0)) fun s4 =>
  ct_nm (cs_F2' s4 f 0) fun s5 =>
  some s5
def fn_Fr_become (s : CS) (f : Nat) (a1 : Int64) (a2 : Int64) : Option CS :=
  if ¬ (lg_cmp a2 0) = 0 then
    ct_ob (fn_Fr_divisor a1 a2) fun x1 =>
    if 0 ≤ (lg_cmp a2 0) then
      bk_Fr_become_33 f a1 a2 s x1
    else
      bk_Fr_become_33 f a1 a2 s (-x1)
  else
    ct_nm (cs_F2' s f 2) fun s2 =>
    some s2
def fn_Te_ratioOf (s : CS) (a1 : Int32) : Option Nat :=
  if ¬ a1 = 0 then
    some 1
  else
    some 0
theorem lt_Te_ratioOf {s : CS} {a1 : Int32} {x : Nat} (h : fn_Te_ratioOf s a1 = some x) : x < 12 := by
  unfold fn_Te_ratioOf at h
  split at h <;> (obtain rfl := Option.some.inj h; decide)
def bk_CT_ratio_47 (a1 : Int32) (a2 : Int32) (a3 : Int32) (s : CS) (t0 : Int32) : Option ((Nat × CS) ⊕ CS) :=
  ct_xb (fn_CT_check s t0) fun s5 =>
  if ¬ a1 = (-1) then
    ct_ob (fn_Te_ratioOf s5 a1) fun x6 =>
    ct_ob (fn_Fr_become s5 x6 a2.toInt64 a3.toInt64) fun s7 =>
    some (.inr s7)
  else
    ct_ob (fn_Fr_become s5 2 a2.toInt64 a3.toInt64) fun s8 =>
    some (.inr s8)
def bk_CT_ratio_17 (a1 : Int32) (a2 : Int32) (a3 : Int32) (s : CS) (t0 : Int32) : Option ((Nat × CS) ⊕ CS) :=
  ct_xb (fn_CT_check s t0) fun s2 =>
  ct_ob (fn_CT_within a2 0 9999) fun x3 =>
  if x3 = 0 then
    bk_CT_ratio_47 a1 a2 a3 s2 0
  else
    ct_ob (fn_CT_within a3 1 9999) fun x4 =>
    if x4 = 0 then
      bk_CT_ratio_47 a1 a2 a3 s2 0
    else
      bk_CT_ratio_47 a1 a2 a3 s2 1
def fn_CT_ratio (s : CS) (a1 : Int32) (a2 : Int32) (a3 : Int32) : Option ((Nat × CS) ⊕ CS) :=
  if a1 = (-1) then
    bk_CT_ratio_17 a1 a2 a3 s 1
  else
    ct_ob (fn_CT_isLine a1) fun x1 =>
    if x1 = 0 then
      bk_CT_ratio_17 a1 a2 a3 s 0
    else
      bk_CT_ratio_17 a1 a2 a3 s 1
def bk_Tr_reshape_29_o (a1 : Int32) (a2 : Int32) (a3 : Int32) (a4 : Int32) (k29 : CS → Int32 → Option CS) (s : CS) (v5 : Int32) : Option CS :=
  if 36 ≤ v5 then
    some s
  else
    ct_gd (ct_inR v5 36) <|
    ct_nm (cs_A' s 6 v5.toNatClampNeg (vp_nar .boolean 0)) fun s6 =>
    k29 s6 (v5 + 1)
def bk_Tr_reshape_29 (a1 : Int32) (a2 : Int32) (a3 : Int32) (a4 : Int32) : Nat → CS → Int32 → Option CS
  | 0 => fun _ _ => none
  | n + 1 => bk_Tr_reshape_29_o a1 a2 a3 a4 (bk_Tr_reshape_29 a1 a2 a3 a4 n)
def fn_Tr_reshape (s : CS) (a1 : Int32) (a2 : Int32) (a3 : Int32) (a4 : Int32) : Option CS :=
  ct_nm (cs_I' s 1 a1) fun s1 =>
  ct_nm (cs_I' s1 2 a2) fun s2 =>
  ct_gd (ct_isB a3) <|
  ct_nm (cs_I' s2 3 a3) fun s3 =>
  ct_nm (cs_I' s3 4 a4) fun s4 =>
  ct_nm (cs_I' s4 5 0) fun s5 =>
  bk_Tr_reshape_29 a1 a2 a3 a4 200 s5 0
def bk_CT_build_33 (a1 : Int32) (a2 : Int32) (a3 : Int32) (a4 : Int32) (s : CS) (t0 : Int32) : Option ((Nat × CS) ⊕ CS) :=
  ct_xb (fn_CT_check s t0) fun s4 =>
  ct_ob (fn_Tr_reshape s4 a1 a2 a3 a4) fun s5 =>
  ct_ob (fn_Tr_fill s5) fun s6 =>
  some (.inr s6)
def fn_CT_build (s : CS) (a1 : Int32) (a2 : Int32) (a3 : Int32) (a4 : Int32) : Option ((Nat × CS) ⊕ CS) :=
  ct_ob (fn_CT_isLine a1) fun x1 =>
  if x1 = 0 then
    bk_CT_build_33 a1 a2 a3 a4 s 0
  else
    ct_ob (fn_CT_within a2 1 12) fun x2 =>
    if x2 = 0 then
      bk_CT_build_33 a1 a2 a3 a4 s 0
    else
      ct_ob (fn_CT_within a4 1 6) fun x3 =>
      if x3 = 0 then
        bk_CT_build_33 a1 a2 a3 a4 s 0
      else
        bk_CT_build_33 a1 a2 a3 a4 s 1
def fn_Tr_shown (s : CS) : Option Int32 :=
  some ((cs_I s 4) - (cs_I s 5))
def fn_CT_isCell (a1 : Int32) (a2 : Int32) (a3 : Int32) : Option Int32 :=
  ct_ob (fn_CT_within a1 0 (a3 - 1)) fun x1 =>
  if x1 = 0 then
    some 0
  else
    ct_ob (fn_CT_within a2 0 ((a3 - 1) - a1)) fun x2 =>
    if x2 = 0 then
      some 0
    else
      some 1
def fn_CT_cell (s : CS) (a1 : Int32) (a2 : Int32) : Option ((Nat × CS) ⊕ (Int32 × CS)) :=
  ct_ob (fn_Tr_shown s) fun x1 =>
  ct_ob (fn_CT_isCell a1 a2 x1) fun x2 =>
  ct_xb (fn_CT_check s x2) fun s3 =>
  ct_gd (ct_inR a1 6) <|
  ct_gd (ct_inR a2 6) <|
  some (.inr (cs_R s3 a1.toNatClampNeg a2.toNatClampNeg, s3))
def bk_Tr_mark_41 (a1 : Int32) (a2 : Int32) (a3 : Int32) (k18 : CS → Int32 → Int32 → Option (Int32 × CS)) (s : CS) (v4 : Int32) (v5 : Int32) : Option (Int32 × CS) :=
  k18 s v4 (v5 + 1)
def bk_Tr_mark_18_o (a1 : Int32) (a2 : Int32) (a3 : Int32) (k18 : CS → Int32 → Int32 → Option (Int32 × CS)) (s : CS) (v4 : Int32) (v5 : Int32) : Option (Int32 × CS) :=
  if 36 ≤ v5 then
    some (v4, s)
  else
    ct_gd (ct_inR v5 36) <|
    if (cs_A s 6 v5.toNatClampNeg) = 0 then
      bk_Tr_mark_41 a1 a2 a3 k18 s v4 v5
    else
      bk_Tr_mark_41 a1 a2 a3 k18 s (v4 + 1) v5
def bk_Tr_mark_18 (a1 : Int32) (a2 : Int32) (a3 : Int32) : Nat → CS → Int32 → Int32 → Option (Int32 × CS)
  | 0 => fun _ _ _ => none
  | n + 1 => bk_Tr_mark_18_o a1 a2 a3 (bk_Tr_mark_18 a1 a2 a3 n)
def fn_Tr_mark (s : CS) (a1 : Int32) (a2 : Int32) (a3 : Int32) : Option (Int32 × CS) :=
  ct_gd (ct_inR ((a1 * 6) + a2) 36) <|
  ct_nm (cs_A' s 6 ((a1 * 6) + a2).toNatClampNeg (vp_nar .boolean a3)) fun s1 =>
  bk_Tr_mark_18 a1 a2 a3 200 s1 0 0
def fn_CT_leave (s : CS) (a1 : Int32) (a2 : Int32) (a3 : Int32) : Option ((Nat × CS) ⊕ (Int32 × CS)) :=
  ct_ob (fn_CT_isCell a1 a2 (cs_I s 4)) fun x1 =>
  ct_xb (fn_CT_check s x1) fun s2 =>
  ct_ob2 (fn_Tr_mark s2 a1 a2 a3) fun x3 s4 =>
  some (.inr (x3, s4))
def fn_CT_latest (s : CS) (a1 : Int32) : Option ((Nat × CS) ⊕ CS) :=
  ct_ob (fn_CT_within a1 1 6) fun x1 =>
  ct_xb (fn_CT_check s x1) fun s2 =>
  ct_nm (cs_I' s2 6 a1) fun s3 =>
  some (.inr s3)
def fn_CT_hide (s : CS) (a1 : Int32) : Option ((Nat × CS) ⊕ (Int32 × CS)) :=
  ct_ob (fn_CT_within a1 0 ((cs_I s 4) - 1)) fun x1 =>
  ct_xb (fn_CT_check s x1) fun s2 =>
  ct_nm (cs_I' s2 5 a1) fun s3 =>
  ct_ob (fn_Tr_shown s3) fun x4 =>
  some (.inr (x4, s3))
def fn_CT_isChain (a1 : Int32) : Option Int32 :=
  if a1 = 0 then
    some 1
  else
    if ¬ a1 = 1 then
      some 0
    else
      some 1
def fn_Tr_takes (s : CS) (a1 : Int32) (a2 : Int32) : Option Int32 :=
  ct_gd (ct_inR ((a1 * 6) + a2) 36) <|
  if ¬ (cs_A s 6 ((a1 * 6) + a2).toNatClampNeg) = 0 then
    some 0
  else
    ct_gd (ct_inR (((a1 * 6) + a2) + 1) 36) <|
    if ¬ (cs_A s 6 (((a1 * 6) + a2) + 1).toNatClampNeg) = 0 then
      some 0
    else
      some 1
def bk_Re_linkUp_90 (a1 : Int32) (a2 : Int32) (s : CS) (v3 : Int64) (v5 : Int64) : Option CS :=
  ct_gd (ct_inR a1 5) <|
  ct_ob (fn_Fr_become s (3 + a1.toNatClampNeg) v3 v5) fun s6 =>
  some s6
def bk_Re_linkUp_84 (a1 : Int32) (a2 : Int32) (k21 : CS → Int64 → Int64 → Int32 → Int32 → Option CS) (s : CS) (v3 : Int64) (v5 : Int64) (v7 : Int32) (v8 : Int32) : Option CS :=
  k21 s v3 v5 v7 (v8 + (-1))
def bk_Re_linkUp_21_o (a1 : Int32) (a2 : Int32) (k21 : CS → Int64 → Int64 → Int32 → Int32 → Option CS) (s : CS) (v3 : Int64) (v5 : Int64) (v7 : Int32) (v8 : Int32) : Option CS :=
  if v8 < 0 then
    bk_Re_linkUp_90 a1 a2 s v3 v5
  else
    if a2 ≤ v7 then
      bk_Re_linkUp_90 a1 a2 s v3 v5
    else
      ct_ob (fn_Tr_takes s v8 a1) fun x3 =>
      if x3 = 0 then
        bk_Re_linkUp_84 a1 a2 k21 s v3 v5 v7 v8
      else
        ct_gd (ct_inR v8 6) <|
        ct_gd (ct_inR (a1 + 1) 6) <|
        ct_nm (v3 + ((cs_R s v8.toNatClampNeg (a1 + 1).toNatClampNeg).toInt64)) fun x4 =>
        ct_gd (ct_inR v8 6) <|
        ct_gd (ct_inR a1 6) <|
        ct_nm (v5 + ((cs_R s v8.toNatClampNeg a1.toNatClampNeg).toInt64)) fun x5 =>
        bk_Re_linkUp_84 a1 a2 k21 s x4 x5 (v7 + 1) v8
def bk_Re_linkUp_21 (a1 : Int32) (a2 : Int32) : Nat → CS → Int64 → Int64 → Int32 → Int32 → Option CS
  | 0 => fun _ _ _ _ _ => none
  | n + 1 => bk_Re_linkUp_21_o a1 a2 (bk_Re_linkUp_21 a1 a2 n)
def fn_Re_linkUp (s : CS) (a1 : Int32) (a2 : Int32) : Option CS :=
  ct_ob (fn_Tr_shown s) fun x1 =>
  ct_nm ((x1 - 2) - a1) fun x2 =>
  bk_Re_linkUp_21 a1 a2 200 s 0 0 0 x2
def bk_Re_prepare_20_o (a1 : Int32) (k20 : CS → Int32 → Int32 → Option CS) (s : CS) (v2 : Int32) (v3 : Int32) : Option CS :=
  ct_ob (fn_Tr_shown s) fun x1 =>
  if (x1 - 1) ≤ v3 then
    some s
  else
    ct_ob (fn_Re_linkUp s v3 v2) fun s2 =>
    k20 s2 v2 (v3 + 1)
def bk_Re_prepare_20 (a1 : Int32) : Nat → CS → Int32 → Int32 → Option CS
  | 0 => fun _ _ _ => none
  | n + 1 => bk_Re_prepare_20_o a1 (bk_Re_prepare_20 a1 n)
def bk_Re_prepare_17 (a1 : Int32) (s : CS) (t0 : Int32) : Option CS :=
  bk_Re_prepare_20 a1 200 s t0 0
def fn_Re_prepare (s : CS) (a1 : Int32) : Option CS :=
  if ¬ a1 = 1 then
    bk_Re_prepare_17 a1 s 6
  else
    bk_Re_prepare_17 a1 s (cs_I s 6)
def fn_Fr_copy (s : CS) (f : Nat) (a1 : Nat) : Option CS :=
  ct_nm (cs_F0' s f ((cs_F s a1).1)) fun s1 =>
  ct_nm (cs_F1' s1 f ((cs_F s1 a1).2.1)) fun s2 =>
  ct_nm (cs_F2' s2 f ((cs_F s2 a1).2.2)) fun s3 =>
  some s3
def fn_Re_toLink (s : CS) (a1 : Int32) : Option CS :=
  ct_gd (ct_inR a1 5) <|
  ct_ob (fn_Fr_copy s 8 (3 + a1.toNatClampNeg)) fun s1 =>
  some s1
def fn_CT_checkAnswer (s : CS) : Option ((Nat × CS) ⊕ CS) :=
  if ¬ ((cs_F s 8).2.2) = 2 then
    if ¬ ((cs_F s 8).2.2) = 1 then
      some (.inr s)
    else
      some (.inl (4, s))
  else
    some (.inl (3, s))
def fn_CT_partOfAnswer (s : CS) (a1 : Int32) : Option ((Nat × CS) ⊕ (Int64 × CS)) :=
  ct_xb (fn_CT_checkAnswer s) fun s1 =>
  if a1 = 0 then
    some (.inr ((cs_F s1 8).1, s1))
  else
    some (.inr ((cs_F s1 8).2.1, s1))
def bk_CT_factor_29 (a1 : Int32) (a2 : Int32) (a3 : Int32) (s : CS) (t0 : Int32) : Option ((Nat × CS) ⊕ (Int64 × CS)) :=
  ct_xb (fn_CT_check s t0) fun s4 =>
  ct_ob (fn_Re_prepare s4 a1) fun s5 =>
  ct_ob (fn_Re_toLink s5 a2) fun s6 =>
  ct_xb2 (fn_CT_partOfAnswer s6 a3) fun x7 s8 =>
  some (.inr (x7, s8))
def fn_CT_factor (s : CS) (a1 : Int32) (a2 : Int32) (a3 : Int32) : Option ((Nat × CS) ⊕ (Int64 × CS)) :=
  ct_ob (fn_CT_isChain a1) fun x1 =>
  if x1 = 0 then
    bk_CT_factor_29 a1 a2 a3 s 0
  else
    ct_ob (fn_Tr_shown s) fun x2 =>
    ct_ob (fn_CT_within a2 0 (x2 - 2)) fun x3 =>
    if x3 = 0 then
      bk_CT_factor_29 a1 a2 a3 s 0
    else
      bk_CT_factor_29 a1 a2 a3 s 1
def fn_CT_isMethod (a1 : Int32) : Option Int32 :=
  ct_ob (fn_CT_within a1 0 3) fun x1 =>
  ct_gd (ct_isB x1) <|
  some x1
def fn_CT_isRow (s : CS) (a1 : Int32) : Option Int32 :=
  ct_ob (fn_Tr_shown s) fun x1 =>
  ct_ob (fn_CT_within a1 0 (x1 - 1)) fun x2 =>
  ct_gd (ct_isB x2) <|
  some x2
def bk_Te_sumPremiums_12_o (a1 : Int32) (a2 : Int32) (a3 : Int32) (k12 : CS → Int32 → Int32 → Int32 → Option Int32) (s : CS) (v4 : Int32) (v5 : Int32) (v6 : Int32) : Option Int32 :=
  if (v4 + a2) ≤ v6 then
    some v5
  else
    if 72 ≤ v6 then
      some v5
    else
      ct_gd (ct_inR a1 2) <|
      ct_gd (ct_inR v6 72) <|
      ct_nm (v5 + (cs_P s a1.toNatClampNeg v6.toNatClampNeg)) fun x2 =>
      k12 s v4 x2 (v6 + 1)
def bk_Te_sumPremiums_12 (a1 : Int32) (a2 : Int32) (a3 : Int32) : Nat → CS → Int32 → Int32 → Int32 → Option Int32
  | 0 => fun _ _ _ _ => none
  | n + 1 => bk_Te_sumPremiums_12_o a1 a2 a3 (bk_Te_sumPremiums_12 a1 a2 a3 n)
def fn_Te_sumPremiums (s : CS) (a1 : Int32) (a2 : Int32) (a3 : Int32) : Option Int32 :=
  ct_nm (a3 * a2) fun x1 =>
  bk_Te_sumPremiums_12 a1 a2 a3 200 s x1 0 x1
def fn_Fr_becomeWhole (s : CS) (f : Nat) (a1 : Int64) : Option CS :=
  ct_nm (cs_F0' s f a1) fun s1 =>
  ct_nm (cs_F1' s1 f 1) fun s2 =>
  ct_nm (cs_F2' s2 f 0) fun s3 =>
  some s3
def fn_Fr_fits (a1 : Int64) (a2 : Int64) : Option Int32 :=
  if (lg_cmp a2 0) = 0 then
    some 1
  else
    ct_gd (ct_gzL (ct_abL a2)) <|
    if 0 < (lg_cmp (ct_abL a1) (4611686018427387904 / (ct_abL a2))) then
      some 0
    else
      some 1
def bk_Fr_times_102 (f : Nat) (a1 : Nat) (s : CS) : Option CS :=
  ct_nm (cs_F2' s f 1) fun s12 =>
  some s12
def fn_Fr_times (s : CS) (f : Nat) (a1 : Nat) : Option CS :=
  ct_nm (cs_F2' s f (ct_mxI ((cs_F s f).2.2) ((cs_F s a1).2.2))) fun s1 =>
  if ((cs_F s1 f).2.2) = 0 then
    ct_ob (fn_Fr_divisor ((cs_F s1 f).1) ((cs_F s1 a1).2.1)) fun x2 =>
    ct_ob (fn_Fr_divisor ((cs_F s1 a1).1) ((cs_F s1 f).2.1)) fun x3 =>
    ct_gd (ct_gzL x2) <|
    ct_nm (((cs_F s1 f).1) / x2) fun x4 =>
    ct_gd (ct_gzL x3) <|
    ct_nm (((cs_F s1 f).2.1) / x3) fun x5 =>
    ct_gd (ct_gzL x3) <|
    ct_nm (((cs_F s1 a1).1) / x3) fun x6 =>
    ct_gd (ct_gzL x2) <|
    ct_nm (((cs_F s1 a1).2.1) / x2) fun x7 =>
    ct_ob (fn_Fr_fits x4 x6) fun x8 =>
    if x8 = 0 then
      bk_Fr_times_102 f a1 s1
    else
      ct_ob (fn_Fr_fits x5 x7) fun x9 =>
      if ¬ x9 = 0 then
        ct_nm (cs_F0' s1 f (x4 * x6)) fun s10 =>
        ct_nm (cs_F1' s10 f (x5 * x7)) fun s11 =>
        some s11
      else
        bk_Fr_times_102 f a1 s1
  else
    some s1
def fn_Re_expect (s : CS) (a1 : Int32) : Option CS :=
  ct_ob (fn_Te_sumPremiums s (cs_I s 1) (cs_I s 2) a1) fun x1 =>
  ct_ob (fn_Fr_becomeWhole s 10 x1.toInt64) fun s2 =>
  ct_ob (fn_Te_ratioOf s2 (cs_I s2 1)) fun x3 =>
  ct_ob (fn_Fr_times s2 10 x3) fun s4 =>
  some s4
def bk_Re_chain_10_o (a1 : Int32) (a2 : Int32) (k10 : CS → Int32 → Option CS) (s : CS) (v3 : Int32) : Option CS :=
  if a2 < v3 then
    some s
  else
    ct_gd (ct_inR v3 5) <|
    ct_ob (fn_Fr_times s 8 (3 + v3.toNatClampNeg)) fun s2 =>
    k10 s2 (v3 + 1)
def bk_Re_chain_10 (a1 : Int32) (a2 : Int32) : Nat → CS → Int32 → Option CS
  | 0 => fun _ _ => none
  | n + 1 => bk_Re_chain_10_o a1 a2 (bk_Re_chain_10 a1 a2 n)
def fn_Re_chain (s : CS) (a1 : Int32) (a2 : Int32) : Option CS :=
  ct_ob (fn_Fr_becomeWhole s 8 1) fun s1 =>
  bk_Re_chain_10 a1 a2 200 s1 a1
def bk_Fr_invert_44 (f : Nat) (s : CS) (t0 : Int64) : Option CS :=
  ct_nm (cs_F1' s f (ct_abL ((cs_F s f).1))) fun s2 =>
  ct_nm (cs_F0' s2 f t0) fun s3 =>
  some s3
def fn_Fr_invert (s : CS) (f : Nat) : Option CS :=
  if ((cs_F s f).2.2) = 0 then
    if ¬ (lg_cmp ((cs_F s f).1) 0) = 0 then
      if 0 ≤ (lg_cmp ((cs_F s f).1) 0) then
        bk_Fr_invert_44 f s ((cs_F s f).2.1)
      else
        bk_Fr_invert_44 f s (-((cs_F s f).2.1))
    else
      ct_nm (cs_F2' s f 2) fun s1 =>
      some s1
  else
    some s
def fn_Fr_negate (s : CS) (f : Nat) : Option CS :=
  ct_nm (cs_F0' s f (-((cs_F s f).1))) fun s1 =>
  some s1
def fn_Re_asWhole (s : CS) (a1 : Int64) : Option (Nat × CS) :=
  ct_ob (fn_Fr_becomeWhole s 9 a1) fun s1 =>
  some (9, s1)
theorem lt_Re_asWhole {s s1 : CS} {a1 : Int64} {x : Nat} (h : fn_Re_asWhole s a1 = some (x, s1)) : x < 12 := by
  unfold fn_Re_asWhole at h
  obtain ⟨a, -, h⟩ := ct_ob_some h
  have h := congrArg Prod.fst (Option.some.inj h)
  simp only at h
  omega
def bk_Fr_plus_151 (f : Nat) (a1 : Nat) (s : CS) (v4 : Int64) (v8 : Int64) (v10 : Int64) : Option CS :=
  ct_nm (((cs_F s f).2.1) * v4) fun x12 =>
  ct_ob (fn_Fr_divisor (v8 + v10) x12) fun x13 =>
  ct_gd (ct_gzL x13) <|
  ct_nm (cs_F0' s f ((v8 + v10) / x13)) fun s14 =>
  ct_gd (ct_gzL x13) <|
  ct_nm (cs_F1' s14 f (x12 / x13)) fun s15 =>
  some s15
def bk_Fr_plus_145 (f : Nat) (a1 : Nat) (s : CS) : Option CS :=
  ct_nm (cs_F2' s f 1) fun s11 =>
  some s11
def bk_Fr_plus_87 (f : Nat) (a1 : Nat) (s : CS) : Option CS :=
  ct_nm (cs_F2' s f 1) fun s10 =>
  some s10
def fn_Fr_plus (s : CS) (f : Nat) (a1 : Nat) : Option CS :=
  ct_nm (cs_F2' s f (ct_mxI ((cs_F s f).2.2) ((cs_F s a1).2.2))) fun s1 =>
  if ((cs_F s1 f).2.2) = 0 then
    ct_ob (fn_Fr_divisor ((cs_F s1 f).2.1) ((cs_F s1 a1).2.1)) fun x2 =>
    ct_gd (ct_gzL x2) <|
    ct_nm (((cs_F s1 a1).2.1) / x2) fun x3 =>
    ct_gd (ct_gzL x2) <|
    ct_nm (((cs_F s1 f).2.1) / x2) fun x4 =>
    ct_ob (fn_Fr_fits ((cs_F s1 f).2.1) x3) fun x5 =>
    if x5 = 0 then
      bk_Fr_plus_87 f a1 s1
    else
      ct_ob (fn_Fr_fits ((cs_F s1 f).1) x3) fun x6 =>
      if x6 = 0 then
        bk_Fr_plus_87 f a1 s1
      else
        ct_ob (fn_Fr_fits ((cs_F s1 a1).1) x4) fun x7 =>
        if ¬ x7 = 0 then
          ct_nm (((cs_F s1 f).1) * x3) fun x8 =>
          ct_nm (((cs_F s1 a1).1) * x4) fun x9 =>
          if (lg_cmp x8 0) ≤ 0 then
            if 0 ≤ (lg_cmp x9 ((-4611686018427387904) - x8)) then
              bk_Fr_plus_151 f a1 s1 x3 x8 x9
            else
              bk_Fr_plus_145 f a1 s1
          else
            if (lg_cmp x9 (4611686018427387904 - x8)) ≤ 0 then
              bk_Fr_plus_151 f a1 s1 x3 x8 x9
            else
              bk_Fr_plus_145 f a1 s1
        else
          bk_Fr_plus_87 f a1 s1
  else
    some s1
def fn_Tr_latestOf (s : CS) (a1 : Int32) : Option Int32 :=
  ct_gd (ct_inR a1 6) <|
  ct_ob (fn_Tr_shown s) fun x1 =>
  ct_gd (ct_inR ((x1 - 1) - a1) 6) <|
  some (cs_R s a1.toNatClampNeg ((x1 - 1) - a1).toNatClampNeg)
def fn_Re_blend (s : CS) (a1 : Int32) : Option CS :=
  ct_ob (fn_Fr_invert s 8) fun s1 =>
  ct_ob (fn_Fr_negate s1 8) fun s2 =>
  ct_ob2 (fn_Re_asWhole s2 1) fun x3 s4 =>
  ct_ob (fn_Fr_plus s4 8 x3) fun s5 =>
  ct_ob (fn_Fr_times s5 8 10) fun s6 =>
  ct_ob (fn_Tr_latestOf s6 a1) fun x7 =>
  ct_ob2 (fn_Re_asWhole s6 x7.toInt64) fun x8 s9 =>
  ct_ob (fn_Fr_plus s9 8 x8) fun s10 =>
  some s10
def bk_Re_toUltimate_15 (a1 : Int32) (a2 : Int32) (s : CS) : Option CS :=
  if ¬ a1 = 2 then
    ct_ob (fn_Tr_shown s) fun x2 =>
    ct_ob (fn_Tr_shown s) fun x3 =>
    ct_ob (fn_Re_chain s ((x2 - 1) - a2) (x3 - 2)) fun s4 =>
    ct_ob (fn_Fr_times s4 8 2) fun s5 =>
    if ¬ a1 = 3 then
      ct_ob (fn_Tr_latestOf s5 a2) fun x6 =>
      ct_ob2 (fn_Re_asWhole s5 x6.toInt64) fun x7 s8 =>
      ct_ob (fn_Fr_times s8 8 x7) fun s9 =>
      some s9
    else
      ct_ob (fn_Re_blend s5 a2) fun s10 =>
      some s10
  else
    ct_ob (fn_Fr_copy s 8 10) fun s11 =>
    some s11
def bk_Re_toUltimate_10 (a1 : Int32) (a2 : Int32) (s : CS) : Option CS :=
  ct_ob (fn_Re_expect s a2) fun s1 =>
  bk_Re_toUltimate_15 a1 a2 s1
def fn_Re_toUltimate (s : CS) (a1 : Int32) (a2 : Int32) : Option CS :=
  if a1 = 2 then
    bk_Re_toUltimate_10 a1 a2 s
  else
    if ¬ a1 = 3 then
      bk_Re_toUltimate_15 a1 a2 s
    else
      bk_Re_toUltimate_10 a1 a2 s
def bk_CT_ultimate_20 (a1 : Int32) (a2 : Int32) (a3 : Int32) (s : CS) (t0 : Int32) : Option ((Nat × CS) ⊕ (Int64 × CS)) :=
  ct_xb (fn_CT_check s t0) fun s3 =>
  ct_ob (fn_Re_prepare s3 a1) fun s4 =>
  ct_ob (fn_Re_toUltimate s4 a1 a2) fun s5 =>
  ct_xb2 (fn_CT_partOfAnswer s5 a3) fun x6 s7 =>
  some (.inr (x6, s7))
def fn_CT_ultimate (s : CS) (a1 : Int32) (a2 : Int32) (a3 : Int32) : Option ((Nat × CS) ⊕ (Int64 × CS)) :=
  ct_ob (fn_CT_isMethod a1) fun x1 =>
  if x1 = 0 then
    bk_CT_ultimate_20 a1 a2 a3 s 0
  else
    ct_ob (fn_CT_isRow s a2) fun x2 =>
    if x2 = 0 then
      bk_CT_ultimate_20 a1 a2 a3 s 0
    else
      bk_CT_ultimate_20 a1 a2 a3 s 1
def fn_Re_toReserve (s : CS) (a1 : Int32) (a2 : Int32) : Option CS :=
  ct_ob (fn_Re_toUltimate s a1 a2) fun s1 =>
  ct_ob (fn_Tr_latestOf s1 a2) fun x2 =>
  ct_ob2 (fn_Re_asWhole s1 ((-x2).toInt64)) fun x3 s4 =>
  ct_ob (fn_Fr_plus s4 8 x3) fun s5 =>
  some s5
def bk_CT_reserve_20 (a1 : Int32) (a2 : Int32) (a3 : Int32) (s : CS) (t0 : Int32) : Option ((Nat × CS) ⊕ (Int64 × CS)) :=
  ct_xb (fn_CT_check s t0) fun s3 =>
  ct_ob (fn_Re_prepare s3 a1) fun s4 =>
  ct_ob (fn_Re_toReserve s4 a1 a2) fun s5 =>
  ct_xb2 (fn_CT_partOfAnswer s5 a3) fun x6 s7 =>
  some (.inr (x6, s7))
def fn_CT_reserve (s : CS) (a1 : Int32) (a2 : Int32) (a3 : Int32) : Option ((Nat × CS) ⊕ (Int64 × CS)) :=
  ct_ob (fn_CT_isMethod a1) fun x1 =>
  if x1 = 0 then
    bk_CT_reserve_20 a1 a2 a3 s 0
  else
    ct_ob (fn_CT_isRow s a2) fun x2 =>
    if x2 = 0 then
      bk_CT_reserve_20 a1 a2 a3 s 0
    else
      bk_CT_reserve_20 a1 a2 a3 s 1
def fn_Ma_floorDiv (a1 : Int64) (a2 : Int64) : Option Int64 :=
  ct_gd (ct_gzL a2) <|
  ct_nm (a1 / a2) fun x1 =>
  if 0 ≤ (lg_cmp (a1 ^^^ a2) 0) then
    some x1
  else
    if (lg_cmp (x1 * a2) a1) = 0 then
      some x1
    else
      some (x1 - 1)
def fn_Fr_nearest (s : CS) (f : Nat) : Option Int64 :=
  ct_ob (fn_Ma_floorDiv ((cs_F s f).1) ((cs_F s f).2.1)) fun x1 =>
  ct_nm (((cs_F s f).1) - (x1 * ((cs_F s f).2.1))) fun x2 =>
  if (lg_cmp x2 (((cs_F s f).2.1) - x2)) < 0 then
    some x1
  else
    some (x1 + 1)
def bk_CT_rounded_20 (a1 : Int32) (a2 : Int32) (s : CS) (t0 : Int32) : Option ((Nat × CS) ⊕ (Int64 × CS)) :=
  ct_xb (fn_CT_check s t0) fun s3 =>
  ct_ob (fn_Re_prepare s3 a1) fun s4 =>
  ct_ob (fn_Re_toReserve s4 a1 a2) fun s5 =>
  ct_xb (fn_CT_checkAnswer s5) fun s6 =>
  ct_ob (fn_Fr_nearest s6 8) fun x7 =>
  some (.inr (x7, s6))
def fn_CT_rounded (s : CS) (a1 : Int32) (a2 : Int32) : Option ((Nat × CS) ⊕ (Int64 × CS)) :=
  ct_ob (fn_CT_isMethod a1) fun x1 =>
  if x1 = 0 then
    bk_CT_rounded_20 a1 a2 s 0
  else
    ct_ob (fn_CT_isRow s a2) fun x2 =>
    if x2 = 0 then
      bk_CT_rounded_20 a1 a2 s 0
    else
      bk_CT_rounded_20 a1 a2 s 1
def bk_Re_toTotal_10_o (a1 : Int32) (k10 : CS → Int32 → Option CS) (s : CS) (v2 : Int32) : Option CS :=
  ct_ob (fn_Tr_shown s) fun x2 =>
  if x2 ≤ v2 then
    ct_ob (fn_Fr_copy s 8 11) fun s3 =>
    some s3
  else
    ct_ob (fn_Re_toReserve s a1 v2) fun s4 =>
    ct_ob (fn_Fr_plus s4 11 8) fun s5 =>
    k10 s5 (v2 + 1)
def bk_Re_toTotal_10 (a1 : Int32) : Nat → CS → Int32 → Option CS
  | 0 => fun _ _ => none
  | n + 1 => bk_Re_toTotal_10_o a1 (bk_Re_toTotal_10 a1 n)
def fn_Re_toTotal (s : CS) (a1 : Int32) : Option CS :=
  ct_ob (fn_Fr_becomeWhole s 11 0) fun s1 =>
  bk_Re_toTotal_10 a1 200 s1 0
def fn_CT_total (s : CS) (a1 : Int32) (a2 : Int32) : Option ((Nat × CS) ⊕ (Int64 × CS)) :=
  ct_ob (fn_CT_isMethod a1) fun x1 =>
  ct_xb (fn_CT_check s x1) fun s2 =>
  ct_ob (fn_Re_prepare s2 a1) fun s3 =>
  ct_ob (fn_Re_toTotal s3 a1) fun s4 =>
  ct_xb2 (fn_CT_partOfAnswer s4 a2) fun x5 s6 =>
  some (.inr (x5, s6))
def bk_Re_markRows_52 (a1 : Int32) (k4 : CS → Int32 → Int32 → Option (Int32 × CS)) (s : CS) (v2 : Int32) (v3 : Int32) : Option (Int32 × CS) :=
  k4 s v2 (v3 + 1)
def bk_Re_markRows_4_o (a1 : Int32) (k4 : CS → Int32 → Int32 → Option (Int32 × CS)) (s : CS) (v2 : Int32) (v3 : Int32) : Option (Int32 × CS) :=
  ct_ob (fn_Tr_shown s) fun x1 =>
  if x1 ≤ v3 then
    some (v2, s)
  else
    ct_ob (fn_Re_toReserve s a1 v3) fun s2 =>
    if ¬ ((cs_F s2 8).2.2) = 2 then
      if ¬ ((cs_F s2 8).2.2) = 1 then
        bk_Re_markRows_52 a1 k4 s2 v2 v3
      else
        bk_Re_markRows_52 a1 k4 s2 (v2 + 10) v3
    else
      bk_Re_markRows_52 a1 k4 s2 (v2 + 1) v3
def bk_Re_markRows_4 (a1 : Int32) : Nat → CS → Int32 → Int32 → Option (Int32 × CS)
  | 0 => fun _ _ _ => none
  | n + 1 => bk_Re_markRows_4_o a1 (bk_Re_markRows_4 a1 n)
def fn_Re_markRows (s : CS) (a1 : Int32) : Option (Int32 × CS) :=
  bk_Re_markRows_4 a1 200 s 0 0
def fn_CT_marks (s : CS) (a1 : Int32) : Option ((Nat × CS) ⊕ (Int32 × CS)) :=
  ct_ob (fn_CT_isMethod a1) fun x1 =>
  ct_xb (fn_CT_check s x1) fun s2 =>
  ct_ob (fn_Re_prepare s2 a1) fun s3 =>
  ct_ob2 (fn_Re_markRows s3 a1) fun x4 s5 =>
  some (.inr (x4, s5))
def fn_Re_toSquare (s : CS) (a1 : Int32) (a2 : Int32) : Option CS :=
  ct_gd (ct_inR a2 5) <|
  ct_ob (fn_Fr_copy s 8 (3 + a2.toNatClampNeg)) fun s1 =>
  ct_gd (ct_inR a1 6) <|
  ct_gd (ct_inR a2 6) <|
  ct_ob2 (fn_Re_asWhole s1 ((cs_R s1 a1.toNatClampNeg a2.toNatClampNeg).toInt64)) fun x2 s3 =>
  ct_ob (fn_Fr_times s3 8 x2) fun s4 =>
  ct_ob (fn_Fr_negate s4 8) fun s5 =>
  ct_gd (ct_inR a1 6) <|
  ct_gd (ct_inR (a2 + 1) 6) <|
  ct_ob2 (fn_Re_asWhole s5 ((cs_R s5 a1.toNatClampNeg (a2 + 1).toNatClampNeg).toInt64)) fun x6 s7 =>
  ct_ob (fn_Fr_plus s7 8 x6) fun s8 =>
  ct_ob (fn_Fr_times s8 8 8) fun s9 =>
  ct_gd (ct_inR a1 6) <|
  ct_gd (ct_inR a2 6) <|
  ct_ob (fn_Fr_become s9 9 1 ((cs_R s9 a1.toNatClampNeg a2.toNatClampNeg).toInt64)) fun s10 =>
  ct_ob (fn_Fr_times s10 8 9) fun s11 =>
  some s11
def bk_Re_toDeviation_59 (a1 : Int32) (k12 : CS → Int32 → Int32 → Option CS) (s : CS) (v2 : Int32) (v3 : Int32) : Option CS :=
  k12 s v2 (v3 + 1)
def bk_Re_toDeviation_12_o (a1 : Int32) (k12 : CS → Int32 → Int32 → Option CS) (s : CS) (v2 : Int32) (v3 : Int32) : Option CS :=
  ct_ob (fn_Tr_shown s) fun x2 =>
  if ((x2 - 1) - a1) ≤ v3 then
    ct_ob (fn_Fr_become s 8 1 ((ct_mxI (v2 - 1) 0).toInt64)) fun s3 =>
    ct_ob (fn_Fr_times s3 8 11) fun s4 =>
    some s4
  else
    ct_ob (fn_Tr_takes s v3 a1) fun x5 =>
    if x5 = 0 then
      bk_Re_toDeviation_59 a1 k12 s v2 v3
    else
      ct_ob (fn_Re_toSquare s v3 a1) fun s6 =>
      ct_ob (fn_Fr_plus s6 11 8) fun s7 =>
      bk_Re_toDeviation_59 a1 k12 s7 (v2 + 1) v3
def bk_Re_toDeviation_12 (a1 : Int32) : Nat → CS → Int32 → Int32 → Option CS
  | 0 => fun _ _ _ => none
  | n + 1 => bk_Re_toDeviation_12_o a1 (bk_Re_toDeviation_12 a1 n)
def fn_Re_toDeviation (s : CS) (a1 : Int32) : Option CS :=
  ct_ob (fn_Fr_becomeWhole s 11 0) fun s1 =>
  bk_Re_toDeviation_12 a1 200 s1 0 0
def fn_CT_deviation (s : CS) (a1 : Int32) (a2 : Int32) : Option ((Nat × CS) ⊕ (Int64 × CS)) :=
  ct_ob (fn_Tr_shown s) fun x1 =>
  ct_ob (fn_CT_within a1 0 (x1 - 2)) fun x2 =>
  ct_xb (fn_CT_check s x2) fun s3 =>
  ct_ob (fn_Re_prepare s3 0) fun s4 =>
  ct_ob (fn_Re_toDeviation s4 a1) fun s5 =>
  ct_xb2 (fn_CT_partOfAnswer s5 a2) fun x6 s7 =>
  some (.inr (x6, s7))
def fn_Re_toError (s : CS) (a1 : Int32) : Option CS :=
  ct_ob (fn_Tr_shown s) fun x1 =>
  ct_ob (fn_Re_chain s ((x1 - 1) - a1) (((cs_I s 4) - 2) - a1)) fun s2 =>
  ct_ob (fn_Tr_latestOf s2 a1) fun x3 =>
  ct_ob2 (fn_Re_asWhole s2 x3.toInt64) fun x4 s5 =>
  ct_ob (fn_Fr_times s5 8 x4) fun s6 =>
  ct_gd (ct_inR a1 6) <|
  ct_gd (ct_inR (((cs_I s6 4) - 1) - a1) 6) <|
  ct_ob2 (fn_Re_asWhole s6 ((-(cs_R s6 a1.toNatClampNeg (((cs_I s6 4) - 1) - a1).toNatClampNeg)).toInt64)) fun x7 s8 =>
  ct_ob (fn_Fr_plus s8 8 x7) fun s9 =>
  some s9
def bk_CT_error_35 (a1 : Int32) (a2 : Int32) (a3 : Int32) (s : CS) (t0 : Int32) : Option ((Nat × CS) ⊕ (Int64 × CS)) :=
  ct_xb (fn_CT_check s t0) fun s4 =>
  ct_ob (fn_Re_prepare s4 a1) fun s5 =>
  ct_ob (fn_Re_toError s5 a2) fun s6 =>
  ct_xb2 (fn_CT_partOfAnswer s6 a3) fun x7 s8 =>
  some (.inr (x7, s8))
def fn_CT_error (s : CS) (a1 : Int32) (a2 : Int32) (a3 : Int32) : Option ((Nat × CS) ⊕ (Int64 × CS)) :=
  ct_ob (fn_CT_isChain a1) fun x1 =>
  if x1 = 0 then
    bk_CT_error_35 a1 a2 a3 s 0
  else
    ct_ob (fn_Tr_shown s) fun x2 =>
    ct_ob (fn_CT_within a2 (cs_I s 5) (x2 - 1)) fun x3 =>
    if x3 = 0 then
      bk_CT_error_35 a1 a2 a3 s 0
    else
      bk_CT_error_35 a1 a2 a3 s 1
def bk_Tr_growth_52 (a1 : Int32) (k4 : CS → Int32 → Int32 → Option Int32) (s : CS) (t0 : Int32) (t1 : Int32) (v3 : Int32) : Option Int32 :=
  ct_nm (t0 + t1) fun x2 =>
  k4 s x2 (v3 + 1)
def bk_Tr_growth_4_o (a1 : Int32) (k4 : CS → Int32 → Int32 → Option Int32) (s : CS) (v2 : Int32) (v3 : Int32) : Option Int32 :=
  if a1 < v3 then
    some v2
  else
    ct_nm (a1 - v3) fun x1 =>
    if ¬ x1 = 0 then
      ct_gd (ct_inR v3 6) <|
      ct_gd (ct_inR x1 6) <|
      ct_gd (ct_inR v3 6) <|
      ct_gd (ct_inR (x1 - 1) 6) <|
      bk_Tr_growth_52 a1 k4 s v2 ((cs_R s v3.toNatClampNeg x1.toNatClampNeg) - (cs_R s v3.toNatClampNeg (x1 - 1).toNatClampNeg)) v3
    else
      ct_gd (ct_inR v3 6) <|
      ct_gd (ct_inR 0 6) <|
      bk_Tr_growth_52 a1 k4 s v2 (cs_R s v3.toNatClampNeg (0 : Int32).toNatClampNeg) v3
def bk_Tr_growth_4 (a1 : Int32) : Nat → CS → Int32 → Int32 → Option Int32
  | 0 => fun _ _ _ => none
  | n + 1 => bk_Tr_growth_4_o a1 (bk_Tr_growth_4 a1 n)
def fn_Tr_growth (s : CS) (a1 : Int32) : Option Int32 :=
  bk_Tr_growth_4 a1 200 s 0 0
def fn_CT_diagonal (s : CS) (a1 : Int32) : Option ((Nat × CS) ⊕ (Int32 × CS)) :=
  ct_ob (fn_Tr_shown s) fun x1 =>
  ct_ob (fn_CT_within a1 0 (x1 - 1)) fun x2 =>
  ct_xb (fn_CT_check s x2) fun s3 =>
  ct_ob (fn_Tr_growth s3 a1) fun x4 =>
  some (.inr (x4, s3))
def bk_Le_countLiving_24 (k4 : CS → Int32 → Int32 → Option Int32) (s : CS) (v1 : Int32) (v2 : Int32) : Option Int32 :=
  k4 s v1 (v2 + 1)
def bk_Le_countLiving_4_o (k4 : CS → Int32 → Int32 → Option Int32) (s : CS) (v1 : Int32) (v2 : Int32) : Option Int32 :=
  if (cs_I s 0) ≤ v2 then
    some v1
  else
    ct_gd (ct_inR v2 60) <|
    if (cs_A s 5 v2.toNatClampNeg) = 0 then
      bk_Le_countLiving_24 k4 s v1 v2
    else
      bk_Le_countLiving_24 k4 s (v1 + 1) v2
def bk_Le_countLiving_4 : Nat → CS → Int32 → Int32 → Option Int32
  | 0 => fun _ _ _ => none
  | n + 1 => bk_Le_countLiving_4_o (bk_Le_countLiving_4 n)
def fn_Le_countLiving (s : CS) : Option Int32 :=
  bk_Le_countLiving_4 200 s 0 0
def bk_Le_sumPayments_39 (a1 : Int32) (k4 : CS → Int32 → Int32 → Option Int32) (s : CS) (v2 : Int32) (v3 : Int32) : Option Int32 :=
  k4 s v2 (v3 + 1)
def bk_Le_sumPayments_4_o (a1 : Int32) (k4 : CS → Int32 → Int32 → Option Int32) (s : CS) (v2 : Int32) (v3 : Int32) : Option Int32 :=
  if (cs_I s 0) ≤ v3 then
    some v2
  else
    ct_ob (fn_Le_livesIn s v3 a1) fun x1 =>
    if x1 = 0 then
      bk_Le_sumPayments_39 a1 k4 s v2 v3
    else
      ct_gd (ct_inR v3 60) <|
      if ¬ (cs_A s 4 v3.toNatClampNeg) = 0 then
        bk_Le_sumPayments_39 a1 k4 s v2 v3
      else
        ct_gd (ct_inR v3 60) <|
        ct_nm (v2 + (cs_A s 3 v3.toNatClampNeg)) fun x2 =>
        bk_Le_sumPayments_39 a1 k4 s x2 v3
def bk_Le_sumPayments_4 (a1 : Int32) : Nat → CS → Int32 → Int32 → Option Int32
  | 0 => fun _ _ _ => none
  | n + 1 => bk_Le_sumPayments_4_o a1 (bk_Le_sumPayments_4 a1 n)
def fn_Le_sumPayments (s : CS) (a1 : Int32) : Option Int32 :=
  bk_Le_sumPayments_4 a1 200 s 0 0
def fn_CT_count (s : CS) (a1 : Int32) : Option ((Nat × CS) ⊕ (Int32 × CS)) :=
  if a1 = 0 then
    some (.inr (cs_I s 0, s))
  else
  if a1 = 1 then
    ct_ob (fn_Le_countLiving s) fun x1 =>
    some (.inr (x1, s))
  else
  if a1 = 2 then
    ct_ob (fn_Tr_shown s) fun x2 =>
    some (.inr (x2, s))
  else
  if a1 = 3 then
    some (.inr (cs_I s 5, s))
  else
  if a1 = 4 then
    ct_ob (fn_Le_sumPayments s (cs_I s 1)) fun x3 =>
    some (.inr (x3, s))
  else
  some (.inl (1, s))
def fn_Mo_thrown (s : MS) : Option Int32 :=
  some (ms_I s 0)
def fn_Mo_noLine (a1 : Int32) : Option Int32 :=
  if a1 < 0 then
    some 1
  else
    if a1 ≤ 1 then
      some 0
    else
      some 1
def fn_Mo_noMonths (a1 : Int32) (a2 : Int32) : Option Int32 :=
  if a1 < 0 then
    some 1
  else
    if 71 < a1 then
      some 1
    else
      if a2 < a1 then
        some 1
      else
        if a2 ≤ 71 then
          some 0
        else
          some 1
def bk_Mo_enter_73 (a1 : Int32) (a2 : Int32) (a3 : Int32) (a4 : Int32) (a5 : Int32) (s : MS) (t1 : Int32) : Option (Int32 × MS) :=
  ct_nm (ms_I' s 0 t1) fun s3 =>
  if (ms_I s3 0) = 0 then
    ct_gd (ct_inR (ms_I s3 1) 60) <|
    ct_nm (ms_A' s3 0 (ms_I s3 1).toNatClampNeg a1) fun s4 =>
    ct_gd (ct_inR (ms_I s4 1) 60) <|
    ct_nm (ms_A' s4 1 (ms_I s4 1).toNatClampNeg a2) fun s5 =>
    ct_gd (ct_inR (ms_I s5 1) 60) <|
    ct_nm (ms_A' s5 2 (ms_I s5 1).toNatClampNeg a3) fun s6 =>
    ct_gd (ct_inR (ms_I s6 1) 60) <|
    ct_nm (ms_A' s6 3 (ms_I s6 1).toNatClampNeg a4) fun s7 =>
    ct_gd (ct_inR (ms_I s7 1) 60) <|
    ct_nm (ms_A' s7 4 (ms_I s7 1).toNatClampNeg (vp_nar .boolean a5)) fun s8 =>
    ct_gd (ct_inR (ms_I s8 1) 60) <|
    ct_nm (ms_A' s8 5 (ms_I s8 1).toNatClampNeg (vp_nar .boolean 0)) fun s9 =>
    ct_nm (ms_I' s9 1 ((ms_I s9 1) + 1)) fun s10 =>
    some ((ms_I s10 1) - 1, s10)
  else
    some (0, s3)
def bk_Mo_enter_47 (a1 : Int32) (a2 : Int32) (a3 : Int32) (a4 : Int32) (a5 : Int32) (s : MS) (t0 : Int32) : Option (Int32 × MS) :=
  if t0 = 0 then
    if ¬ (ms_I s 1) = 60 then
      bk_Mo_enter_73 a1 a2 a3 a4 a5 s 0
    else
      bk_Mo_enter_73 a1 a2 a3 a4 a5 s 2
  else
    bk_Mo_enter_73 a1 a2 a3 a4 a5 s 1
def bk_Mo_enter_39 (a1 : Int32) (a2 : Int32) (a3 : Int32) (a4 : Int32) (a5 : Int32) (s : MS) (t0 : Int32) (t1 : Int32) : Option (Int32 × MS) :=
  if t1 ≤ t0 then
    bk_Mo_enter_47 a1 a2 a3 a4 a5 s 0
  else
    bk_Mo_enter_47 a1 a2 a3 a4 a5 s 1
def fn_Mo_enter (s : MS) (a1 : Int32) (a2 : Int32) (a3 : Int32) (a4 : Int32) (a5 : Int32) : Option (Int32 × MS) :=
  ct_ob (fn_Mo_noLine a1) fun x1 =>
  if ¬ x1 = 0 then
    bk_Mo_enter_47 a1 a2 a3 a4 a5 s 1
  else
    ct_ob (fn_Mo_noMonths a2 a3) fun x2 =>
    if ¬ x2 = 0 then
      bk_Mo_enter_47 a1 a2 a3 a4 a5 s 1
    else
      if 9999 < a4 then
        bk_Mo_enter_47 a1 a2 a3 a4 a5 s 1
      else
        if a5 = 0 then
          bk_Mo_enter_39 a1 a2 a3 a4 a5 s a4 0
        else
          bk_Mo_enter_39 a1 a2 a3 a4 a5 s a4 (-9999)
def fn_Mo_pay (s : MS) (a1 : Int32) (a2 : Int32) (a3 : Int32) (a4 : Int32) : Option (Int32 × MS) :=
  ct_ob2 (fn_Mo_enter s a1 a2 a3 a4 1) fun x1 s2 =>
  some (x1, s2)
def fn_Mo_estimate (s : MS) (a1 : Int32) (a2 : Int32) (a3 : Int32) (a4 : Int32) : Option (Int32 × MS) :=
  ct_ob2 (fn_Mo_enter s a1 a2 a3 a4 0) fun x1 s2 =>
  some (x1, s2)
def fn_Mo_noEntry (s : MS) (a1 : Int32) : Option Int32 :=
  if a1 < 0 then
    some 1
  else
    if a1 < (ms_I s 1) then
      some 0
    else
      some 1
def bk_Mo_strike_27 (a1 : Int32) (s : MS) (t1 : Int32) : Option (Int32 × MS) :=
  ct_nm (ms_I' s 0 t1) fun s2 =>
  if (ms_I s2 0) = 0 then
    ct_gd (ct_inR a1 60) <|
    ct_nm (ms_A' s2 5 a1.toNatClampNeg (vp_nar .boolean 1)) fun s3 =>
    ct_gd (ct_inR a1 60) <|
    some (ms_A s3 3 a1.toNatClampNeg, s3)
  else
    some (0, s2)
def fn_Mo_strike (s : MS) (a1 : Int32) : Option (Int32 × MS) :=
  ct_ob (fn_Mo_noEntry s a1) fun x1 =>
  if x1 = 0 then
    ct_gd (ct_inR a1 60) <|
    if (ms_A s 5 a1.toNatClampNeg) = 0 then
      bk_Mo_strike_27 a1 s 0
    else
      bk_Mo_strike_27 a1 s 2
  else
    bk_Mo_strike_27 a1 s 1
def bk_Mo_move_36 (a1 : Int32) (a2 : Int32) (a3 : Int32) (s : MS) (t1 : Int32) : Option MS :=
  ct_nm (ms_I' s 0 t1) fun s3 =>
  if ¬ (ms_I s3 0) = 0 then
    some s3
  else
    ct_gd (ct_inR a1 60) <|
    ct_nm (ms_A' s3 1 a1.toNatClampNeg a2) fun s4 =>
    ct_gd (ct_inR a1 60) <|
    ct_nm (ms_A' s4 2 a1.toNatClampNeg a3) fun s5 =>
    some s5
def fn_Mo_move (s : MS) (a1 : Int32) (a2 : Int32) (a3 : Int32) : Option MS :=
  ct_ob (fn_Mo_noEntry s a1) fun x1 =>
  if ¬ x1 = 0 then
    bk_Mo_move_36 a1 a2 a3 s 1
  else
    ct_ob (fn_Mo_noMonths a2 a3) fun x2 =>
    if x2 = 0 then
      ct_gd (ct_inR a1 60) <|
      if (ms_A s 5 a1.toNatClampNeg) = 0 then
        bk_Mo_move_36 a1 a2 a3 s 0
      else
        bk_Mo_move_36 a1 a2 a3 s 2
    else
      bk_Mo_move_36 a1 a2 a3 s 1
def bk_Mo_premium_35 (a1 : Int32) (a2 : Int32) (a3 : Int32) (s : MS) (t1 : Int32) : Option MS :=
  ct_nm (ms_I' s 0 t1) fun s2 =>
  if ¬ (ms_I s2 0) = 0 then
    some s2
  else
    ct_gd (ct_inR ((72 * a1) + a2) 144) <|
    ct_nm (ms_A' s2 6 ((72 * a1) + a2).toNatClampNeg a3) fun s3 =>
    some s3
def fn_Mo_premium (s : MS) (a1 : Int32) (a2 : Int32) (a3 : Int32) : Option MS :=
  ct_ob (fn_Mo_noLine a1) fun x1 =>
  if ¬ x1 = 0 then
    bk_Mo_premium_35 a1 a2 a3 s 1
  else
    if a2 < 0 then
      bk_Mo_premium_35 a1 a2 a3 s 1
    else
      if 71 < a2 then
        bk_Mo_premium_35 a1 a2 a3 s 1
      else
        if a3 < 0 then
          bk_Mo_premium_35 a1 a2 a3 s 1
        else
          if a3 ≤ 9999 then
            bk_Mo_premium_35 a1 a2 a3 s 0
          else
            bk_Mo_premium_35 a1 a2 a3 s 1
def bk_Mo_divisor_6_o (a1 : Int64) (a2 : Int64) (k6 : Int64 → Int64 → Option Int64) (v5 : Int64) (v7 : Int64) : Option Int64 :=
  if (lg_cmp v7 0) = 0 then
    some v5
  else
    ct_gd (ct_gzL v7) <|
    ct_nm (v5 - v5 / v7 * v7) fun x1 =>
    k6 v7 x1
def bk_Mo_divisor_6 (a1 : Int64) (a2 : Int64) : Nat → Int64 → Int64 → Option Int64
  | 0 => fun _ _ => none
  | n + 1 => bk_Mo_divisor_6_o a1 a2 (bk_Mo_divisor_6 a1 a2 n)
def fn_Mo_divisor (a1 : Int64) (a2 : Int64) : Option Int64 :=
  bk_Mo_divisor_6 a1 a2 200 a1 a2
def bk_Mo_ratio_58 (a1 : Int32) (a2 : Int32) (a3 : Int32) (s : MS) (t0 : Int32) : Option MS :=
  ct_ob (fn_Mo_divisor a2.toInt64 a3.toInt64) fun x2 =>
  ct_gd (ct_gzL x2) <|
  ct_gd (ct_inR t0 3) <|
  ct_nm (ms_B' s 0 t0.toNatClampNeg (a2.toInt64 / x2)) fun s3 =>
  ct_gd (ct_gzL x2) <|
  ct_gd (ct_inR t0 3) <|
  ct_nm (ms_B' s3 1 t0.toNatClampNeg (a3.toInt64 / x2)) fun s4 =>
  some s4
def bk_Mo_ratio_39 (a1 : Int32) (a2 : Int32) (a3 : Int32) (s : MS) (t1 : Int32) : Option MS :=
  ct_nm (ms_I' s 0 t1) fun s1 =>
  if ¬ (ms_I s1 0) = 0 then
    some s1
  else
    if 0 ≤ a1 then
      bk_Mo_ratio_58 a1 a2 a3 s1 a1
    else
      bk_Mo_ratio_58 a1 a2 a3 s1 2
def fn_Mo_ratio (s : MS) (a1 : Int32) (a2 : Int32) (a3 : Int32) : Option MS :=
  if a1 < (-1) then
    bk_Mo_ratio_39 a1 a2 a3 s 1
  else
    if 1 < a1 then
      bk_Mo_ratio_39 a1 a2 a3 s 1
    else
      if a2 < 0 then
        bk_Mo_ratio_39 a1 a2 a3 s 1
      else
        if 9999 < a2 then
          bk_Mo_ratio_39 a1 a2 a3 s 1
        else
          if a3 < 1 then
            bk_Mo_ratio_39 a1 a2 a3 s 1
          else
            if a3 ≤ 9999 then
              bk_Mo_ratio_39 a1 a2 a3 s 0
            else
              bk_Mo_ratio_39 a1 a2 a3 s 1
def bk_Mo_build_78_o (a1 : Int32) (a2 : Int32) (a3 : Int32) (a4 : Int32) (k78 : MS → Int32 → Option MS) (s : MS) (v5 : Int32) : Option MS :=
  if 36 ≤ v5 then
    some s
  else
    ct_gd (ct_inR v5 36) <|
    ct_nm (ms_A' s 7 v5.toNatClampNeg (vp_nar .boolean 0)) fun s8 =>
    k78 s8 (v5 + 1)
def bk_Mo_build_78 (a1 : Int32) (a2 : Int32) (a3 : Int32) (a4 : Int32) : Nat → MS → Int32 → Option MS
  | 0 => fun _ _ => none
  | n + 1 => bk_Mo_build_78_o a1 a2 a3 a4 (bk_Mo_build_78 a1 a2 a3 a4 n)
def bk_Mo_build_38 (a1 : Int32) (a2 : Int32) (a3 : Int32) (a4 : Int32) (s : MS) (t1 : Int32) : Option MS :=
  ct_nm (ms_I' s 0 t1) fun s2 =>
  if (ms_I s2 0) = 0 then
    ct_nm (ms_I' s2 2 a1) fun s3 =>
    ct_nm (ms_I' s3 3 a2) fun s4 =>
    ct_gd (ct_isB a3) <|
    ct_nm (ms_I' s4 4 a3) fun s5 =>
    ct_nm (ms_I' s5 5 a4) fun s6 =>
    ct_nm (ms_I' s6 6 0) fun s7 =>
    bk_Mo_build_78 a1 a2 a3 a4 200 s7 0
  else
    some s2
def fn_Mo_build (s : MS) (a1 : Int32) (a2 : Int32) (a3 : Int32) (a4 : Int32) : Option MS :=
  ct_ob (fn_Mo_noLine a1) fun x1 =>
  if ¬ x1 = 0 then
    bk_Mo_build_38 a1 a2 a3 a4 s 1
  else
    if a2 < 1 then
      bk_Mo_build_38 a1 a2 a3 a4 s 1
    else
      if 12 < a2 then
        bk_Mo_build_38 a1 a2 a3 a4 s 1
      else
        if a4 < 1 then
          bk_Mo_build_38 a1 a2 a3 a4 s 1
        else
          if a4 ≤ 6 then
            bk_Mo_build_38 a1 a2 a3 a4 s 0
          else
            bk_Mo_build_38 a1 a2 a3 a4 s 1
def bk_Mo_estimateOf_108 (a1 : Int32) (a2 : Int32) (k5 : MS → Int32 → Int32 → Option Int32) (s : MS) (t0 : Int32) (v4 : Int32) : Option Int32 :=
  k5 s t0 (v4 + 1)
def bk_Mo_estimateOf_75 (a1 : Int32) (a2 : Int32) (k5 : MS → Int32 → Int32 → Option Int32) (s : MS) (t0 : Int32) (v3 : Int32) (v4 : Int32) : Option Int32 :=
  if t0 = 0 then
    bk_Mo_estimateOf_108 a1 a2 k5 s v3 v4
  else
    if v3 < 0 then
      bk_Mo_estimateOf_108 a1 a2 k5 s v4 v4
    else
      ct_gd (ct_inR v4 60) <|
      ct_gd (ct_inR v3 60) <|
      if (ms_A s 2 v4.toNatClampNeg) < (ms_A s 2 v3.toNatClampNeg) then
        bk_Mo_estimateOf_108 a1 a2 k5 s v3 v4
      else
        bk_Mo_estimateOf_108 a1 a2 k5 s v4 v4
def bk_Mo_estimateOf_5_o (a1 : Int32) (a2 : Int32) (k5 : MS → Int32 → Int32 → Option Int32) (s : MS) (v3 : Int32) (v4 : Int32) : Option Int32 :=
  if (ms_I s 1) ≤ v4 then
    if 0 ≤ v3 then
      ct_gd (ct_inR v3 60) <|
      some (ms_A s 3 v3.toNatClampNeg)
    else
      some 0
  else
    ct_gd (ct_inR v4 60) <|
    if ¬ (ms_A s 4 v4.toNatClampNeg) = 0 then
      bk_Mo_estimateOf_75 a1 a2 k5 s 0 v3 v4
    else
      ct_gd (ct_inR v4 60) <|
      if ¬ (ms_A s 5 v4.toNatClampNeg) = 0 then
        bk_Mo_estimateOf_75 a1 a2 k5 s 0 v3 v4
      else
        ct_gd (ct_inR v4 60) <|
        if ¬ (ms_A s 0 v4.toNatClampNeg) = (ms_I s 2) then
          bk_Mo_estimateOf_75 a1 a2 k5 s 0 v3 v4
        else
          ct_gd (ct_inR v4 60) <|
          if ¬ (ms_A s 1 v4.toNatClampNeg) = a1 then
            bk_Mo_estimateOf_75 a1 a2 k5 s 0 v3 v4
          else
            ct_gd (ct_inR v4 60) <|
            if a2 ≤ (ms_A s 2 v4.toNatClampNeg) then
              bk_Mo_estimateOf_75 a1 a2 k5 s 0 v3 v4
            else
              bk_Mo_estimateOf_75 a1 a2 k5 s 1 v3 v4
def bk_Mo_estimateOf_5 (a1 : Int32) (a2 : Int32) : Nat → MS → Int32 → Int32 → Option Int32
  | 0 => fun _ _ _ => none
  | n + 1 => bk_Mo_estimateOf_5_o a1 a2 (bk_Mo_estimateOf_5 a1 a2 n)
def fn_Mo_estimateOf (s : MS) (a1 : Int32) (a2 : Int32) : Option Int32 :=
  bk_Mo_estimateOf_5 a1 a2 200 s (-1) 0
def bk_Mo_sumOf_129_o (a1 : Int32) (a2 : Int32) (k129 : MS → Int32 → Int32 → Int32 → Option Int32) (s : MS) (v3 : Int32) (v4 : Int32) (v5 : Int32) : Option Int32 :=
  if ((a1 * (ms_I s 3)) + (ms_I s 3)) ≤ v5 then
    some v4
  else
    if (ms_I s 4) = 0 then
      some v4
    else
      ct_ob (fn_Mo_estimateOf s v5 v3) fun x4 =>
      ct_nm (v4 + x4) fun x5 =>
      k129 s v3 x5 (v5 + 1)
def bk_Mo_sumOf_129 (a1 : Int32) (a2 : Int32) : Nat → MS → Int32 → Int32 → Int32 → Option Int32
  | 0 => fun _ _ _ _ => none
  | n + 1 => bk_Mo_sumOf_129_o a1 a2 (bk_Mo_sumOf_129 a1 a2 n)
def bk_Mo_sumOf_112 (a1 : Int32) (a2 : Int32) (k17 : MS → Int32 → Int32 → Int32 → Option Int32) (s : MS) (t0 : Int32) (t1 : Int32) (v3 : Int32) (v5 : Int32) : Option Int32 :=
  ct_nm (t0 + t1) fun x3 =>
  k17 s v3 x3 (v5 + 1)
def bk_Mo_sumOf_92 (a1 : Int32) (a2 : Int32) (k17 : MS → Int32 → Int32 → Int32 → Option Int32) (s : MS) (t0 : Int32) (v3 : Int32) (v4 : Int32) (v5 : Int32) : Option Int32 :=
  if t0 = 0 then
    bk_Mo_sumOf_112 a1 a2 k17 s v4 0 v3 v5
  else
    ct_gd (ct_inR v5 60) <|
    bk_Mo_sumOf_112 a1 a2 k17 s v4 (ms_A s 3 v5.toNatClampNeg) v3 v5
def bk_Mo_sumOf_17_o (a1 : Int32) (a2 : Int32) (k17 : MS → Int32 → Int32 → Int32 → Option Int32) (s : MS) (v3 : Int32) (v4 : Int32) (v5 : Int32) : Option Int32 :=
  if (ms_I s 1) ≤ v5 then
    ct_nm (a1 * (ms_I s 3)) fun x2 =>
    bk_Mo_sumOf_129 a1 a2 200 s v3 v4 x2
  else
    ct_gd (ct_inR v5 60) <|
    if (ms_A s 4 v5.toNatClampNeg) = 0 then
      bk_Mo_sumOf_92 a1 a2 k17 s 0 v3 v4 v5
    else
      ct_gd (ct_inR v5 60) <|
      if ¬ (ms_A s 5 v5.toNatClampNeg) = 0 then
        bk_Mo_sumOf_92 a1 a2 k17 s 0 v3 v4 v5
      else
        ct_gd (ct_inR v5 60) <|
        if ¬ (ms_A s 0 v5.toNatClampNeg) = (ms_I s 2) then
          bk_Mo_sumOf_92 a1 a2 k17 s 0 v3 v4 v5
        else
          ct_gd (ct_inR v5 60) <|
          ct_gd (ct_gzI (ms_I s 3)) <|
          if ¬ ((ms_A s 1 v5.toNatClampNeg) / (ms_I s 3)) = a1 then
            bk_Mo_sumOf_92 a1 a2 k17 s 0 v3 v4 v5
          else
            ct_gd (ct_inR v5 60) <|
            if v3 ≤ (ms_A s 2 v5.toNatClampNeg) then
              bk_Mo_sumOf_92 a1 a2 k17 s 0 v3 v4 v5
            else
              bk_Mo_sumOf_92 a1 a2 k17 s 1 v3 v4 v5
def bk_Mo_sumOf_17 (a1 : Int32) (a2 : Int32) : Nat → MS → Int32 → Int32 → Int32 → Option Int32
  | 0 => fun _ _ _ _ => none
  | n + 1 => bk_Mo_sumOf_17_o a1 a2 (bk_Mo_sumOf_17 a1 a2 n)
def fn_Mo_sumOf (s : MS) (a1 : Int32) (a2 : Int32) : Option Int32 :=
  ct_nm (((a1 + a2) + 1) * (ms_I s 3)) fun x1 =>
  bk_Mo_sumOf_17 a1 a2 200 s x1 0 0
def bk_Mo_look_12_o (k2 : MS → Int32 → Option MS) (k12 : MS → Int32 → Int32 → Option MS) (s : MS) (v1 : Int32) (v2 : Int32) : Option MS :=
  if (ms_I s 5) ≤ (v1 + v2) then
    k2 s (v1 + 1)
  else
    ct_ob (fn_Mo_sumOf s v1 v2) fun x2 =>
    ct_gd (ct_inR ((6 * v1) + v2) 36) <|
    ct_nm (ms_A' s 8 ((6 * v1) + v2).toNatClampNeg x2) fun s3 =>
    k12 s3 v1 (v2 + 1)
def bk_Mo_look_12 (k2 : MS → Int32 → Option MS) : Nat → MS → Int32 → Int32 → Option MS
  | 0 => fun _ _ _ => none
  | n + 1 => bk_Mo_look_12_o k2 (bk_Mo_look_12 k2 n)
def bk_Mo_look_2_o (k2 : MS → Int32 → Option MS) (s : MS) (v1 : Int32) : Option MS :=
  if (ms_I s 5) ≤ v1 then
    ct_nm (ms_I' s 8 0) fun s1 =>
    some s1
  else
    bk_Mo_look_12 k2 200 s v1 0
def bk_Mo_look_2 : Nat → MS → Int32 → Option MS
  | 0 => fun _ _ => none
  | n + 1 => bk_Mo_look_2_o (bk_Mo_look_2 n)
def fn_Mo_look (s : MS) : Option MS :=
  bk_Mo_look_2 200 s 0
def fn_Mo_left (s : MS) : Option Int32 :=
  some ((ms_I s 5) - (ms_I s 6))
def fn_Mo_noCell (a1 : Int32) (a2 : Int32) (a3 : Int32) : Option Int32 :=
  if a1 < 0 then
    some 1
  else
    if a2 < 0 then
      some 1
    else
      if a3 ≤ a1 then
        some 1
      else
        if a3 ≤ a2 then
          some 1
        else
          if (a1 + a2) < a3 then
            some 0
          else
            some 1
def bk_Mo_cell_19 (a1 : Int32) (a2 : Int32) (s : MS) (t1 : Int32) : Option (Int32 × MS) :=
  ct_nm (ms_I' s 0 t1) fun s3 =>
  if ¬ (ms_I s3 0) = 0 then
    some (0, s3)
  else
    ct_ob (fn_Mo_sumOf s3 a1 a2) fun x4 =>
    some (x4, s3)
def fn_Mo_cell (s : MS) (a1 : Int32) (a2 : Int32) : Option (Int32 × MS) :=
  ct_ob (fn_Mo_left s) fun x1 =>
  ct_ob (fn_Mo_noCell a1 a2 x1) fun x2 =>
  if x2 = 0 then
    bk_Mo_cell_19 a1 a2 s 0
  else
    bk_Mo_cell_19 a1 a2 s 1
def bk_Mo_leave_73 (a1 : Int32) (a2 : Int32) (a3 : Int32) (k49 : MS → Int32 → Int32 → Option (Int32 × MS)) (s : MS) (t0 : Int32) (t1 : Int32) (v5 : Int32) : Option (Int32 × MS) :=
  ct_nm (t0 + t1) fun x4 =>
  k49 s x4 (v5 + 1)
def bk_Mo_leave_49_o (a1 : Int32) (a2 : Int32) (a3 : Int32) (k49 : MS → Int32 → Int32 → Option (Int32 × MS)) (s : MS) (v4 : Int32) (v5 : Int32) : Option (Int32 × MS) :=
  if 36 ≤ v5 then
    some (v4, s)
  else
    ct_gd (ct_inR v5 36) <|
    if (ms_A s 7 v5.toNatClampNeg) = 0 then
      bk_Mo_leave_73 a1 a2 a3 k49 s v4 0 v5
    else
      bk_Mo_leave_73 a1 a2 a3 k49 s v4 1 v5
def bk_Mo_leave_49 (a1 : Int32) (a2 : Int32) (a3 : Int32) : Nat → MS → Int32 → Int32 → Option (Int32 × MS)
  | 0 => fun _ _ _ => none
  | n + 1 => bk_Mo_leave_49_o a1 a2 a3 (bk_Mo_leave_49 a1 a2 a3 n)
def bk_Mo_leave_19 (a1 : Int32) (a2 : Int32) (a3 : Int32) (s : MS) (t1 : Int32) : Option (Int32 × MS) :=
  ct_nm (ms_I' s 0 t1) fun s2 =>
  if (ms_I s2 0) = 0 then
    ct_gd (ct_inR ((6 * a1) + a2) 36) <|
    ct_nm (ms_A' s2 7 ((6 * a1) + a2).toNatClampNeg (vp_nar .boolean a3)) fun s3 =>
    bk_Mo_leave_49 a1 a2 a3 200 s3 0 0
  else
    some (0, s2)
def fn_Mo_leave (s : MS) (a1 : Int32) (a2 : Int32) (a3 : Int32) : Option (Int32 × MS) :=
  ct_ob (fn_Mo_noCell a1 a2 (ms_I s 5)) fun x1 =>
  if x1 = 0 then
    bk_Mo_leave_19 a1 a2 a3 s 0
  else
    bk_Mo_leave_19 a1 a2 a3 s 1
def bk_Mo_latest_17 (a1 : Int32) (s : MS) (t1 : Int32) : Option MS :=
  ct_nm (ms_I' s 0 t1) fun s1 =>
  if ¬ (ms_I s1 0) = 0 then
    some s1
  else
    ct_nm (ms_I' s1 7 a1) fun s2 =>
    some s2
def fn_Mo_latest (s : MS) (a1 : Int32) : Option MS :=
  if a1 < 1 then
    bk_Mo_latest_17 a1 s 1
  else
    if a1 ≤ 6 then
      bk_Mo_latest_17 a1 s 0
    else
      bk_Mo_latest_17 a1 s 1
def bk_Mo_hide_18 (a1 : Int32) (s : MS) (t1 : Int32) : Option (Int32 × MS) :=
  ct_nm (ms_I' s 0 t1) fun s1 =>
  if (ms_I s1 0) = 0 then
    ct_nm (ms_I' s1 6 a1) fun s2 =>
    ct_ob (fn_Mo_left s2) fun x3 =>
    some (x3, s2)
  else
    some (0, s1)
def fn_Mo_hide (s : MS) (a1 : Int32) : Option (Int32 × MS) :=
  if a1 < 0 then
    bk_Mo_hide_18 a1 s 1
  else
    if a1 < (ms_I s 5) then
      bk_Mo_hide_18 a1 s 0
    else
      bk_Mo_hide_18 a1 s 1
def fn_Mo_size (a1 : Int64) : Option Int64 :=
  if 0 ≤ (lg_cmp a1 0) then
    some a1
  else
    some (-a1)
def fn_Mo_isShort (a1 : Int64) (a2 : Int64) : Option Int32 :=
  if (lg_cmp a1 0) = 0 then
    some 1
  else
    if (lg_cmp a2 0) = 0 then
      some 1
    else
      ct_ob (fn_Mo_size a1) fun x1 =>
      ct_ob (fn_Mo_size a2) fun x2 =>
      ct_gd (ct_gzL x2) <|
      if 0 < (lg_cmp x1 (4611686018427387904 / x2)) then
        some 0
      else
        some 1
def fn_Mo_set (s : MS) (a1 : Int64) (a2 : Int64) : Option MS :=
  ct_nm (ms_L' s 0 a1) fun s1 =>
  ct_nm (ms_L' s1 1 a2) fun s2 =>
  some s2
def bk_Mo_times_88 (a1 : Int64) (a2 : Int64) (s : MS) (t1 : Int32) (v5 : Int64) (v7 : Int64) (v9 : Int64) (v11 : Int64) : Option MS :=
  ct_gd (ct_isB t1) <|
  ct_nm (ms_I' s 8 t1) fun s9 =>
  if ¬ (ms_I s9 8) = 0 then
    some s9
  else
    ct_gd (ct_gzL v7) <|
    ct_gd (ct_gzL v5) <|
    ct_ob (fn_Mo_set s9 (v9 * (a1 / v7)) (v11 * (a2 / v5))) fun s10 =>
    some s10
def fn_Mo_times (s : MS) (a1 : Int64) (a2 : Int64) : Option MS :=
  if (ms_I s 8) = 0 then
    ct_ob (fn_Mo_size (ms_L s 0)) fun x1 =>
    ct_ob (fn_Mo_divisor x1 a2) fun x2 =>
    ct_ob (fn_Mo_size a1) fun x3 =>
    ct_ob (fn_Mo_divisor x3 (ms_L s 1)) fun x4 =>
    ct_gd (ct_gzL x2) <|
    ct_nm ((ms_L s 0) / x2) fun x5 =>
    ct_gd (ct_gzL x4) <|
    ct_nm ((ms_L s 1) / x4) fun x6 =>
    ct_gd (ct_gzL x4) <|
    ct_ob (fn_Mo_isShort x5 (a1 / x4)) fun x7 =>
    if x7 = 0 then
      bk_Mo_times_88 a1 a2 s 1 x2 x4 x5 x6
    else
      ct_gd (ct_gzL x2) <|
      ct_ob (fn_Mo_isShort x6 (a2 / x2)) fun x8 =>
      if ¬ x8 = 0 then
        bk_Mo_times_88 a1 a2 s 0 x2 x4 x5 x6
      else
        bk_Mo_times_88 a1 a2 s 1 x2 x4 x5 x6
  else
    some s
def bk_Mo_plus_171 (a1 : Int64) (a2 : Int64) (s : MS) (t1 : Int32) (v7 : Int64) (v9 : Int64) (v11 : Int64) : Option MS :=
  ct_gd (ct_isB t1) <|
  ct_nm (ms_I' s 8 t1) fun s11 =>
  if ¬ (ms_I s11 8) = 0 then
    some s11
  else
    ct_ob (fn_Mo_size (v9 + v11)) fun x12 =>
    ct_ob (fn_Mo_divisor x12 v7) fun x13 =>
    ct_gd (ct_gzL x13) <|
    ct_gd (ct_gzL x13) <|
    ct_ob (fn_Mo_set s11 ((v9 + v11) / x13) (v7 / x13)) fun s14 =>
    some s14
def bk_Mo_plus_93 (a1 : Int64) (a2 : Int64) (s : MS) (t1 : Int32) (v7 : Int64) : Option MS :=
  ct_gd (ct_isB t1) <|
  ct_nm (ms_I' s 8 t1) fun s8 =>
  if (ms_I s8 8) = 0 then
    ct_gd (ct_gzL (ms_L s8 1)) <|
    ct_nm ((ms_L s8 0) * (v7 / (ms_L s8 1))) fun x9 =>
    ct_gd (ct_gzL a2) <|
    ct_nm (a1 * (v7 / a2)) fun x10 =>
    if (lg_cmp x10 0) ≤ 0 then
      if 0 ≤ (lg_cmp x9 ((-4611686018427387904) - x10)) then
        bk_Mo_plus_171 a1 a2 s8 0 v7 x9 x10
      else
        bk_Mo_plus_171 a1 a2 s8 1 v7 x9 x10
    else
      if (lg_cmp x9 (4611686018427387904 - x10)) ≤ 0 then
        bk_Mo_plus_171 a1 a2 s8 0 v7 x9 x10
      else
        bk_Mo_plus_171 a1 a2 s8 1 v7 x9 x10
  else
    some s8
def bk_Mo_plus_40 (a1 : Int64) (a2 : Int64) (s : MS) (t1 : Int32) (v5 : Int64) : Option MS :=
  ct_gd (ct_isB t1) <|
  ct_nm (ms_I' s 8 t1) fun s4 =>
  if (ms_I s4 8) = 0 then
    ct_nm (v5 * a2) fun x5 =>
    ct_gd (ct_gzL (ms_L s4 1)) <|
    ct_ob (fn_Mo_isShort (ms_L s4 0) (x5 / (ms_L s4 1))) fun x6 =>
    if x6 = 0 then
      bk_Mo_plus_93 a1 a2 s4 1 x5
    else
      ct_gd (ct_gzL a2) <|
      ct_ob (fn_Mo_isShort a1 (x5 / a2)) fun x7 =>
      if ¬ x7 = 0 then
        bk_Mo_plus_93 a1 a2 s4 0 x5
      else
        bk_Mo_plus_93 a1 a2 s4 1 x5
  else
    some s4
def fn_Mo_plus (s : MS) (a1 : Int64) (a2 : Int64) : Option MS :=
  if (ms_I s 8) = 0 then
    ct_ob (fn_Mo_divisor (ms_L s 1) a2) fun x1 =>
    ct_gd (ct_gzL x1) <|
    ct_nm ((ms_L s 1) / x1) fun x2 =>
    ct_ob (fn_Mo_isShort x2 a2) fun x3 =>
    if ¬ x3 = 0 then
      bk_Mo_plus_40 a1 a2 s 0 x2
    else
      bk_Mo_plus_40 a1 a2 s 1 x2
  else
    some s
def bk_Mo_turn_29 (s : MS) (t1 : Int64) : Option MS :=
  ct_ob (fn_Mo_size (ms_L s 0)) fun x1 =>
  ct_ob (fn_Mo_set s t1 x1) fun s2 =>
  some s2
def fn_Mo_turn (s : MS) : Option MS :=
  if ¬ (ms_I s 8) = 0 then
    some s
  else
    if 0 ≤ (lg_cmp (ms_L s 0) 0) then
      bk_Mo_turn_29 s (ms_L s 1)
    else
      bk_Mo_turn_29 s (-(ms_L s 1))
def fn_Mo_takes (s : MS) (a1 : Int32) (a2 : Int32) (a3 : Int32) : Option Int32 :=
  if a3 ≤ ((a1 + a2) + 1) then
    some 0
  else
    ct_gd (ct_inR ((6 * a1) + a2) 36) <|
    if ¬ (ms_A s 7 ((6 * a1) + a2).toNatClampNeg) = 0 then
      some 0
    else
      ct_gd (ct_inR (((6 * a1) + a2) + 1) 36) <|
      if ¬ (ms_A s 7 (((6 * a1) + a2) + 1).toNatClampNeg) = 0 then
        some 0
      else
        some 1
def bk_Mo_find_147 (a1 : Int32) (a2 : Int32) (s : MS) (t1 : Int64) (v6 : Int64) (v9 : Int64) : Option (Int32 × MS) :=
  ct_nm (ms_L' s 4 t1) fun s9 =>
  ct_ob (fn_Mo_size v6) fun x10 =>
  ct_gd (ct_gzL v9) <|
  ct_nm (ms_L' s9 5 (x10 / v9)) fun s11 =>
  some (1, s11)
def bk_Mo_find_92 (a1 : Int32) (a2 : Int32) (k21 : MS → Int32 → Int64 → Int64 → Int32 → Int32 → Option (Int32 × MS)) (s : MS) (v3 : Int32) (v4 : Int64) (v6 : Int64) (v8 : Int32) (v9 : Int32) : Option (Int32 × MS) :=
  k21 s v3 v4 v6 v8 (v9 + (-1))
def bk_Mo_find_51 (a1 : Int32) (a2 : Int32) (k21 : MS → Int32 → Int64 → Int64 → Int32 → Int32 → Option (Int32 × MS)) (s : MS) (v3 : Int32) (v4 : Int64) (v6 : Int64) (v8 : Int32) (v9 : Int32) : Option (Int32 × MS) :=
  ct_gd (ct_inR (((6 * v9) + a2) + 1) 36) <|
  ct_nm (v4 + ((ms_A s 8 (((6 * v9) + a2) + 1).toNatClampNeg).toInt64)) fun x7 =>
  ct_gd (ct_inR ((6 * v9) + a2) 36) <|
  ct_nm (v6 + ((ms_A s 8 ((6 * v9) + a2).toNatClampNeg).toInt64)) fun x8 =>
  bk_Mo_find_92 a1 a2 k21 s v3 x7 x8 (v8 + 1) v9
def bk_Mo_find_21_o (a1 : Int32) (a2 : Int32) (k21 : MS → Int32 → Int64 → Int64 → Int32 → Int32 → Option (Int32 × MS)) (s : MS) (v3 : Int32) (v4 : Int64) (v6 : Int64) (v8 : Int32) (v9 : Int32) : Option (Int32 × MS) :=
  if v9 < 0 then
    if ¬ (lg_cmp v6 0) = 0 then
      ct_ob (fn_Mo_size v4) fun x3 =>
      ct_ob (fn_Mo_size v6) fun x4 =>
      ct_ob (fn_Mo_divisor x3 x4) fun x5 =>
      if 0 ≤ (lg_cmp v6 0) then
        ct_gd (ct_gzL x5) <|
        bk_Mo_find_147 a1 a2 s (v4 / x5) v6 x5
      else
        ct_gd (ct_gzL x5) <|
        bk_Mo_find_147 a1 a2 s ((-v4) / x5) v6 x5
    else
      some (0, s)
  else
    ct_ob (fn_Mo_takes s v9 a2 v3) fun x6 =>
    if x6 = 0 then
      bk_Mo_find_92 a1 a2 k21 s v3 v4 v6 v8 v9
    else
      if ¬ a1 = 1 then
        bk_Mo_find_51 a1 a2 k21 s v3 v4 v6 v8 v9
      else
        if (ms_I s 7) ≤ v8 then
          bk_Mo_find_92 a1 a2 k21 s v3 v4 v6 v8 v9
        else
          bk_Mo_find_51 a1 a2 k21 s v3 v4 v6 v8 v9
def bk_Mo_find_21 (a1 : Int32) (a2 : Int32) : Nat → MS → Int32 → Int64 → Int64 → Int32 → Int32 → Option (Int32 × MS)
  | 0 => fun _ _ _ _ _ _ => none
  | n + 1 => bk_Mo_find_21_o a1 a2 (bk_Mo_find_21 a1 a2 n)
def fn_Mo_find (s : MS) (a1 : Int32) (a2 : Int32) : Option (Int32 × MS) :=
  ct_ob (fn_Mo_left s) fun x1 =>
  ct_nm ((x1 - 2) - a2) fun x2 =>
  bk_Mo_find_21 a1 a2 200 s x1 0 0 0 x2
def bk_Mo_areDefined_32 (a1 : Int32) (a2 : Int32) (a3 : Int32) (k6 : MS → Int32 → Int32 → Option (Int32 × MS)) (s : MS) (t0 : Int32) (v5 : Int32) : Option (Int32 × MS) :=
  k6 s t0 (v5 + 1)
def bk_Mo_areDefined_6_o (a1 : Int32) (a2 : Int32) (a3 : Int32) (k6 : MS → Int32 → Int32 → Option (Int32 × MS)) (s : MS) (v4 : Int32) (v5 : Int32) : Option (Int32 × MS) :=
  if a3 < v5 then
    ct_gd (ct_isB v4) <|
    some (v4, s)
  else
    if v4 = 0 then
      bk_Mo_areDefined_32 a1 a2 a3 k6 s 0 v5
    else
      ct_ob2 (fn_Mo_find s a1 v5) fun x1 s2 =>
      if x1 = 0 then
        bk_Mo_areDefined_32 a1 a2 a3 k6 s2 0 v5
      else
        bk_Mo_areDefined_32 a1 a2 a3 k6 s2 1 v5
def bk_Mo_areDefined_6 (a1 : Int32) (a2 : Int32) (a3 : Int32) : Nat → MS → Int32 → Int32 → Option (Int32 × MS)
  | 0 => fun _ _ _ => none
  | n + 1 => bk_Mo_areDefined_6_o a1 a2 a3 (bk_Mo_areDefined_6 a1 a2 a3 n)
def fn_Mo_areDefined (s : MS) (a1 : Int32) (a2 : Int32) (a3 : Int32) : Option (Int32 × MS) :=
  bk_Mo_areDefined_6 a1 a2 a3 200 s 1 a2
def bk_Mo_way_37 (a1 : Int32) (a2 : Int32) (a3 : Int32) (k9 : MS → Int32 → Option MS) (s : MS) (v4 : Int32) : Option MS :=
  k9 s (v4 + 1)
def bk_Mo_way_9_o (a1 : Int32) (a2 : Int32) (a3 : Int32) (k9 : MS → Int32 → Option MS) (s : MS) (v4 : Int32) : Option MS :=
  if a3 < v4 then
    some s
  else
    ct_ob2 (fn_Mo_find s a1 v4) fun x2 s3 =>
    if x2 = 0 then
      bk_Mo_way_37 a1 a2 a3 k9 s3 v4
    else
      ct_ob (fn_Mo_times s3 (ms_L s3 4) (ms_L s3 5)) fun s4 =>
      bk_Mo_way_37 a1 a2 a3 k9 s4 v4
def bk_Mo_way_9 (a1 : Int32) (a2 : Int32) (a3 : Int32) : Nat → MS → Int32 → Option MS
  | 0 => fun _ _ => none
  | n + 1 => bk_Mo_way_9_o a1 a2 a3 (bk_Mo_way_9 a1 a2 a3 n)
def fn_Mo_way (s : MS) (a1 : Int32) (a2 : Int32) (a3 : Int32) : Option MS :=
  ct_ob (fn_Mo_set s 1 1) fun s1 =>
  bk_Mo_way_9 a1 a2 a3 200 s1 a2
def fn_Mo_answer (s : MS) : Option Int32 :=
  if (ms_I s 8) = 0 then
    some 0
  else
    some 3
def fn_Mo_latestOf (s : MS) (a1 : Int32) : Option Int32 :=
  ct_ob (fn_Mo_left s) fun x1 =>
  ct_gd (ct_inR ((((6 * a1) + x1) - 1) - a1) 36) <|
  some (ms_A s 8 ((((6 * a1) + x1) - 1) - a1).toNatClampNeg)
def bk_Mo_expect_58 (a1 : Int32) (s : MS) (v2 : Int64) : Option MS :=
  ct_ob (fn_Mo_set s v2 1) fun s3 =>
  ct_gd (ct_inR (ms_I s3 2) 3) <|
  ct_gd (ct_inR (ms_I s3 2) 3) <|
  ct_ob (fn_Mo_times s3 (ms_B s3 0 (ms_I s3 2).toNatClampNeg) (ms_B s3 1 (ms_I s3 2).toNatClampNeg)) fun s4 =>
  ct_nm (ms_L' s4 2 (ms_L s4 0)) fun s5 =>
  ct_nm (ms_L' s5 3 (ms_L s5 1)) fun s6 =>
  some s6
def bk_Mo_expect_10_o (a1 : Int32) (k10 : MS → Int64 → Int32 → Option MS) (s : MS) (v2 : Int64) (v4 : Int32) : Option MS :=
  if ((a1 * (ms_I s 3)) + (ms_I s 3)) ≤ v4 then
    bk_Mo_expect_58 a1 s v2
  else
    if 72 ≤ v4 then
      bk_Mo_expect_58 a1 s v2
    else
      ct_gd (ct_inR ((72 * (ms_I s 2)) + v4) 144) <|
      ct_nm (v2 + ((ms_A s 6 ((72 * (ms_I s 2)) + v4).toNatClampNeg).toInt64)) fun x2 =>
      k10 s x2 (v4 + 1)
def bk_Mo_expect_10 (a1 : Int32) : Nat → MS → Int64 → Int32 → Option MS
  | 0 => fun _ _ _ => none
  | n + 1 => bk_Mo_expect_10_o a1 (bk_Mo_expect_10 a1 n)
def fn_Mo_expect (s : MS) (a1 : Int32) : Option MS :=
  ct_nm (a1 * (ms_I s 3)) fun x1 =>
  bk_Mo_expect_10 a1 200 s 0 x1
def bk_Mo_work_135 (a1 : Int32) (a2 : Int32) (s : MS) : Option (Int32 × MS) :=
  ct_ob (fn_Mo_turn s) fun s13 =>
  ct_nm (ms_L' s13 0 (-(ms_L s13 0))) fun s14 =>
  ct_ob (fn_Mo_plus s14 1 1) fun s15 =>
  ct_ob (fn_Mo_times s15 (ms_L s15 2) (ms_L s15 3)) fun s16 =>
  ct_ob (fn_Mo_latestOf s16 a2) fun x17 =>
  ct_ob (fn_Mo_plus s16 x17.toInt64 1) fun s18 =>
  ct_ob (fn_Mo_answer s18) fun x19 =>
  some (x19, s18)
def bk_Mo_work_66 (a1 : Int32) (a2 : Int32) (s : MS) (v3 : Int32) (v4 : Int32) : Option (Int32 × MS) :=
  ct_ob (fn_Mo_way s v4 ((v3 - 1) - a2) (v3 - 2)) fun s8 =>
  ct_gd (ct_inR 2 3) <|
  ct_gd (ct_inR 2 3) <|
  ct_ob (fn_Mo_times s8 (ms_B s8 0 (2 : Int32).toNatClampNeg) (ms_B s8 1 (2 : Int32).toNatClampNeg)) fun s9 =>
  if a1 = 3 then
    if ¬ (ms_I s9 8) = 0 then
      bk_Mo_work_135 a1 a2 s9
    else
      if ¬ (lg_cmp (ms_L s9 0) 0) = 0 then
        bk_Mo_work_135 a1 a2 s9
      else
        some (2, s9)
  else
    ct_ob (fn_Mo_latestOf s9 a2) fun x10 =>
    ct_ob (fn_Mo_times s9 x10.toInt64 1) fun s11 =>
    ct_ob (fn_Mo_answer s11) fun x12 =>
    some (x12, s11)
def bk_Mo_work_35 (a1 : Int32) (a2 : Int32) (s : MS) (t0 : Int32) (v3 : Int32) : Option (Int32 × MS) :=
  ct_ob2 (fn_Mo_areDefined s t0 ((v3 - 1) - a2) (v3 - 2)) fun x5 s6 =>
  if ¬ x5 = 0 then
    if ¬ a1 = 3 then
      bk_Mo_work_66 a1 a2 s6 v3 t0
    else
      ct_ob (fn_Mo_expect s6 a2) fun s7 =>
      bk_Mo_work_66 a1 a2 s7 v3 t0
  else
    some (2, s6)
def fn_Mo_work (s : MS) (a1 : Int32) (a2 : Int32) : Option (Int32 × MS) :=
  ct_ob (fn_Mo_left s) fun x1 =>
  ct_nm (ms_I' s 8 0) fun s2 =>
  if ¬ a1 = 2 then
    if ¬ a1 = 1 then
      bk_Mo_work_35 a1 a2 s2 0 x1
    else
      bk_Mo_work_35 a1 a2 s2 1 x1
  else
    ct_ob (fn_Mo_expect s2 a2) fun s3 =>
    ct_ob (fn_Mo_answer s3) fun x4 =>
    some (x4, s3)
def fn_Mo_workReserve (s : MS) (a1 : Int32) (a2 : Int32) : Option (Int32 × MS) :=
  ct_ob2 (fn_Mo_work s a1 a2) fun x1 s2 =>
  if x1 = 0 then
    ct_ob (fn_Mo_latestOf s2 a2) fun x3 =>
    ct_ob (fn_Mo_plus s2 ((-x3).toInt64) 1) fun s4 =>
    ct_ob (fn_Mo_answer s4) fun x5 =>
    some (x5, s4)
  else
    some (x1, s2)
def fn_Mo_told (s : MS) (a1 : Int32) (a2 : Int32) : Option (Int64 × MS) :=
  ct_nm (ms_I' s 0 a1) fun s1 =>
  if a1 = 0 then
    if a2 = 0 then
      some (ms_L s1 0, s1)
    else
      some (ms_L s1 1, s1)
  else
    some (0, s1)
def bk_Mo_factor_76 (a1 : Int32) (a2 : Int32) (a3 : Int32) (s : MS) (t1 : Int32) : Option (Int64 × MS) :=
  ct_ob2 (fn_Mo_told s t1 a3) fun x7 s8 =>
  some (x7, s8)
def bk_Mo_factor_29 (a1 : Int32) (a2 : Int32) (a3 : Int32) (s : MS) (t1 : Int32) : Option (Int64 × MS) :=
  ct_nm (ms_I' s 0 t1) fun s2 =>
  if (ms_I s2 0) = 0 then
    ct_ob (fn_Mo_look s2) fun s3 =>
    ct_ob2 (fn_Mo_find s3 a1 a2) fun x4 s5 =>
    ct_ob (fn_Mo_set s5 (ms_L s5 4) (ms_L s5 5)) fun s6 =>
    if x4 = 0 then
      bk_Mo_factor_76 a1 a2 a3 s6 2
    else
      bk_Mo_factor_76 a1 a2 a3 s6 0
  else
    some (0, s2)
def fn_Mo_factor (s : MS) (a1 : Int32) (a2 : Int32) (a3 : Int32) : Option (Int64 × MS) :=
  if a1 < 0 then
    bk_Mo_factor_29 a1 a2 a3 s 1
  else
    if 1 < a1 then
      bk_Mo_factor_29 a1 a2 a3 s 1
    else
      if a2 < 0 then
        bk_Mo_factor_29 a1 a2 a3 s 1
      else
        ct_ob (fn_Mo_left s) fun x1 =>
        if a2 ≤ (x1 - 2) then
          bk_Mo_factor_29 a1 a2 a3 s 0
        else
          bk_Mo_factor_29 a1 a2 a3 s 1
def fn_Mo_noRow (s : MS) (a1 : Int32) (a2 : Int32) : Option Int32 :=
  if a1 < 0 then
    some 1
  else
    if 3 < a1 then
      some 1
    else
      if a2 < 0 then
        some 1
      else
        ct_ob (fn_Mo_left s) fun x1 =>
        if a2 < x1 then
          some 0
        else
          some 1
def bk_Mo_ultimate_15 (a1 : Int32) (a2 : Int32) (a3 : Int32) (s : MS) (t1 : Int32) : Option (Int64 × MS) :=
  ct_nm (ms_I' s 0 t1) fun s2 =>
  if (ms_I s2 0) = 0 then
    ct_ob (fn_Mo_look s2) fun s3 =>
    ct_ob2 (fn_Mo_work s3 a1 a2) fun x4 s5 =>
    ct_ob2 (fn_Mo_told s5 x4 a3) fun x6 s7 =>
    some (x6, s7)
  else
    some (0, s2)
def fn_Mo_ultimate (s : MS) (a1 : Int32) (a2 : Int32) (a3 : Int32) : Option (Int64 × MS) :=
  ct_ob (fn_Mo_noRow s a1 a2) fun x1 =>
  if x1 = 0 then
    bk_Mo_ultimate_15 a1 a2 a3 s 0
  else
    bk_Mo_ultimate_15 a1 a2 a3 s 1
def bk_Mo_reserve_15 (a1 : Int32) (a2 : Int32) (a3 : Int32) (s : MS) (t1 : Int32) : Option (Int64 × MS) :=
  ct_nm (ms_I' s 0 t1) fun s2 =>
  if (ms_I s2 0) = 0 then
    ct_ob (fn_Mo_look s2) fun s3 =>
    ct_ob2 (fn_Mo_workReserve s3 a1 a2) fun x4 s5 =>
    ct_ob2 (fn_Mo_told s5 x4 a3) fun x6 s7 =>
    some (x6, s7)
  else
    some (0, s2)
def fn_Mo_reserve (s : MS) (a1 : Int32) (a2 : Int32) (a3 : Int32) : Option (Int64 × MS) :=
  ct_ob (fn_Mo_noRow s a1 a2) fun x1 =>
  if x1 = 0 then
    bk_Mo_reserve_15 a1 a2 a3 s 0
  else
    bk_Mo_reserve_15 a1 a2 a3 s 1
def bk_Mo_rounded_81 (a1 : Int32) (a2 : Int32) (s : MS) (t0 : Int64) : Option (Int64 × MS) :=
  ct_nm ((ms_L s 0) - (t0 * (ms_L s 1))) fun x8 =>
  if (lg_cmp x8 ((ms_L s 1) - x8)) < 0 then
    some (t0, s)
  else
    some (t0 + 1, s)
def bk_Mo_rounded_15 (a1 : Int32) (a2 : Int32) (s : MS) (t1 : Int32) : Option (Int64 × MS) :=
  ct_nm (ms_I' s 0 t1) fun s2 =>
  if (ms_I s2 0) = 0 then
    ct_ob (fn_Mo_look s2) fun s3 =>
    ct_ob2 (fn_Mo_workReserve s3 a1 a2) fun x4 s5 =>
    ct_nm (ms_I' s5 0 x4) fun s6 =>
    if (ms_I s6 0) = 0 then
      ct_gd (ct_gzL (ms_L s6 1)) <|
      ct_nm ((ms_L s6 0) / (ms_L s6 1)) fun x7 =>
      if (lg_cmp (x7 * (ms_L s6 1)) (ms_L s6 0)) ≤ 0 then
        bk_Mo_rounded_81 a1 a2 s6 x7
      else
        bk_Mo_rounded_81 a1 a2 s6 (x7 - 1)
    else
      some (0, s6)
  else
    some (0, s2)
def fn_Mo_rounded (s : MS) (a1 : Int32) (a2 : Int32) : Option (Int64 × MS) :=
  ct_ob (fn_Mo_noRow s a1 a2) fun x1 =>
  if x1 = 0 then
    bk_Mo_rounded_15 a1 a2 s 0
  else
    bk_Mo_rounded_15 a1 a2 s 1
def bk_Mo_total_130 (a1 : Int32) (a2 : Int32) (k92 : MS → Int64 → Int64 → Int32 → Option (Int64 × MS)) (s : MS) : Option (Int64 × MS) :=
  ct_ob2 (fn_Mo_told s 3 a2) fun x17 s18 =>
  some (x17, s18)
def bk_Mo_total_92_o (a1 : Int32) (a2 : Int32) (k92 : MS → Int64 → Int64 → Int32 → Option (Int64 × MS)) (s : MS) (v4 : Int64) (v6 : Int64) (v8 : Int32) : Option (Int64 × MS) :=
  ct_ob (fn_Mo_left s) fun x8 =>
  if x8 ≤ v8 then
    ct_ob (fn_Mo_set s v4 v6) fun s9 =>
    ct_ob2 (fn_Mo_told s9 0 a2) fun x10 s11 =>
    some (x10, s11)
  else
    ct_ob2 (fn_Mo_workReserve s a1 v8) fun x12 s13 =>
    ct_ob (fn_Mo_plus s13 v4 v6) fun s14 =>
    if ¬ x12 = 0 then
      bk_Mo_total_130 a1 a2 k92 s14
    else
      if (ms_I s14 8) = 0 then
        ct_nm (ms_L s14 0) fun x15 =>
        ct_nm (ms_L s14 1) fun x16 =>
        k92 s14 x15 x16 (v8 + 1)
      else
        bk_Mo_total_130 a1 a2 k92 s14
def bk_Mo_total_92 (a1 : Int32) (a2 : Int32) : Nat → MS → Int64 → Int64 → Int32 → Option (Int64 × MS)
  | 0 => fun _ _ _ _ => none
  | n + 1 => bk_Mo_total_92_o a1 a2 (bk_Mo_total_92 a1 a2 n)
def bk_Mo_total_65 (a1 : Int32) (a2 : Int32) (k36 : MS → Int32 → Int32 → Option (Int64 × MS)) (s : MS) (t0 : Int32) (v4 : Int32) : Option (Int64 × MS) :=
  k36 s t0 (v4 + 1)
def bk_Mo_total_36_o (a1 : Int32) (a2 : Int32) (k36 : MS → Int32 → Int32 → Option (Int64 × MS)) (s : MS) (v3 : Int32) (v4 : Int32) : Option (Int64 × MS) :=
  ct_ob (fn_Mo_left s) fun x3 =>
  if x3 ≤ v4 then
    if v3 = 0 then
      bk_Mo_total_92 a1 a2 200 s 0 1 0
    else
      ct_ob2 (fn_Mo_told s 2 a2) fun x4 s5 =>
      some (x4, s5)
  else
    if ¬ v3 = 0 then
      bk_Mo_total_65 a1 a2 k36 s 1 v4
    else
      ct_ob2 (fn_Mo_workReserve s a1 v4) fun x6 s7 =>
      if ¬ x6 = 2 then
        bk_Mo_total_65 a1 a2 k36 s7 0 v4
      else
        bk_Mo_total_65 a1 a2 k36 s7 1 v4
def bk_Mo_total_36 (a1 : Int32) (a2 : Int32) : Nat → MS → Int32 → Int32 → Option (Int64 × MS)
  | 0 => fun _ _ _ => none
  | n + 1 => bk_Mo_total_36_o a1 a2 (bk_Mo_total_36 a1 a2 n)
def bk_Mo_total_15 (a1 : Int32) (a2 : Int32) (s : MS) (t1 : Int32) : Option (Int64 × MS) :=
  ct_nm (ms_I' s 0 t1) fun s1 =>
  if (ms_I s1 0) = 0 then
    ct_ob (fn_Mo_look s1) fun s2 =>
    bk_Mo_total_36 a1 a2 200 s2 0 0
  else
    some (0, s1)
def fn_Mo_total (s : MS) (a1 : Int32) (a2 : Int32) : Option (Int64 × MS) :=
  if a1 < 0 then
    bk_Mo_total_15 a1 a2 s 1
  else
    if a1 ≤ 3 then
      bk_Mo_total_15 a1 a2 s 0
    else
      bk_Mo_total_15 a1 a2 s 1
def bk_Mo_marks_74 (a1 : Int32) (k35 : MS → Int32 → Int32 → Option (Int32 × MS)) (s : MS) (t0 : Int32) (t1 : Int32) (v3 : Int32) : Option (Int32 × MS) :=
  ct_nm (t0 + t1) fun x6 =>
  k35 s x6 (v3 + 1)
def bk_Mo_marks_35_o (a1 : Int32) (k35 : MS → Int32 → Int32 → Option (Int32 × MS)) (s : MS) (v2 : Int32) (v3 : Int32) : Option (Int32 × MS) :=
  ct_ob (fn_Mo_left s) fun x3 =>
  if x3 ≤ v3 then
    some (v2, s)
  else
    ct_ob2 (fn_Mo_workReserve s a1 v3) fun x4 s5 =>
    if ¬ x4 = 2 then
      if ¬ x4 = 3 then
        bk_Mo_marks_74 a1 k35 s5 v2 0 v3
      else
        bk_Mo_marks_74 a1 k35 s5 v2 10 v3
    else
      bk_Mo_marks_74 a1 k35 s5 v2 1 v3
def bk_Mo_marks_35 (a1 : Int32) : Nat → MS → Int32 → Int32 → Option (Int32 × MS)
  | 0 => fun _ _ _ => none
  | n + 1 => bk_Mo_marks_35_o a1 (bk_Mo_marks_35 a1 n)
def bk_Mo_marks_15 (a1 : Int32) (s : MS) (t1 : Int32) : Option (Int32 × MS) :=
  ct_nm (ms_I' s 0 t1) fun s1 =>
  if (ms_I s1 0) = 0 then
    ct_ob (fn_Mo_look s1) fun s2 =>
    bk_Mo_marks_35 a1 200 s2 0 0
  else
    some (0, s1)
def fn_Mo_marks (s : MS) (a1 : Int32) : Option (Int32 × MS) :=
  if a1 < 0 then
    bk_Mo_marks_15 a1 s 1
  else
    if a1 ≤ 3 then
      bk_Mo_marks_15 a1 s 0
    else
      bk_Mo_marks_15 a1 s 1
def bk_Mo_deviation_275 (a1 : Int32) (a2 : Int32) (k136 : MS → Int32 → Int32 → Int64 → Int64 → Int32 → Option (Int64 × MS)) (s : MS) (v3 : Int32) (v5 : Int32) (v6 : Int64) (v8 : Int64) (v10 : Int32) : Option (Int64 × MS) :=
  k136 s v3 v5 v6 v8 (v10 + 1)
def bk_Mo_deviation_245 (a1 : Int32) (a2 : Int32) (k136 : MS → Int32 → Int32 → Int64 → Int64 → Int32 → Option (Int64 × MS)) (s : MS) (t1 : Int64) (v3 : Int32) (v5 : Int32) (v6 : Int64) (v8 : Int64) (v10 : Int32) (v11 : Int32) : Option (Int64 × MS) :=
  ct_ob (fn_Mo_size v11.toInt64) fun x20 =>
  ct_ob (fn_Mo_times s t1 x20) fun s21 =>
  ct_ob (fn_Mo_plus s21 v6 v8) fun s22 =>
  ct_nm (ms_L s22 0) fun x23 =>
  ct_nm (ms_L s22 1) fun x24 =>
  bk_Mo_deviation_275 a1 a2 k136 s22 v3 v5 x23 x24 v10
def bk_Mo_deviation_136_o (a1 : Int32) (a2 : Int32) (k136 : MS → Int32 → Int32 → Int64 → Int64 → Int32 → Option (Int64 × MS)) (s : MS) (v3 : Int32) (v5 : Int32) (v6 : Int64) (v8 : Int64) (v10 : Int32) : Option (Int64 × MS) :=
  if v3 ≤ ((v10 + a1) + 1) then
    ct_ob (fn_Mo_times s 1 (v5.toInt64 - 1)) fun s9 =>
    ct_ob (fn_Mo_answer s9) fun x10 =>
    ct_ob2 (fn_Mo_told s9 x10 a2) fun x11 s12 =>
    some (x11, s12)
  else
    ct_ob (fn_Mo_takes s v10 a1 v3) fun x13 =>
    if x13 = 0 then
      bk_Mo_deviation_275 a1 a2 k136 s v3 v5 v6 v8 v10
    else
      ct_gd (ct_inR ((6 * v10) + a1) 36) <|
      ct_nm (ms_A s 8 ((6 * v10) + a1).toNatClampNeg) fun x14 =>
      ct_ob (fn_Mo_set s (ms_L s 4) (ms_L s 5)) fun s15 =>
      ct_ob (fn_Mo_times s15 x14.toInt64 1) fun s16 =>
      ct_nm (ms_L' s16 0 (-(ms_L s16 0))) fun s17 =>
      ct_gd (ct_inR (((6 * v10) + a1) + 1) 36) <|
      ct_ob (fn_Mo_plus s17 ((ms_A s17 8 (((6 * v10) + a1) + 1).toNatClampNeg).toInt64) 1) fun s18 =>
      ct_ob (fn_Mo_times s18 (ms_L s18 0) (ms_L s18 1)) fun s19 =>
      if 0 ≤ x14 then
        bk_Mo_deviation_245 a1 a2 k136 s19 1 v3 v5 v6 v8 v10 x14
      else
        bk_Mo_deviation_245 a1 a2 k136 s19 (-1) v3 v5 v6 v8 v10 x14
def bk_Mo_deviation_136 (a1 : Int32) (a2 : Int32) : Nat → MS → Int32 → Int32 → Int64 → Int64 → Int32 → Option (Int64 × MS)
  | 0 => fun _ _ _ _ _ _ => none
  | n + 1 => bk_Mo_deviation_136_o a1 a2 (bk_Mo_deviation_136 a1 a2 n)
def bk_Mo_deviation_120 (a1 : Int32) (a2 : Int32) (s : MS) : Option (Int64 × MS) :=
  ct_ob2 (fn_Mo_told s 2 a2) fun x7 s8 =>
  some (x7, s8)
def bk_Mo_deviation_103 (a1 : Int32) (a2 : Int32) (k52 : MS → Int32 → Int32 → Int32 → Int32 → Option (Int64 × MS)) (s : MS) (v3 : Int32) (v4 : Int32) (v5 : Int32) (v6 : Int32) : Option (Int64 × MS) :=
  k52 s v3 v4 v5 (v6 + 1)
def bk_Mo_deviation_52_o (a1 : Int32) (a2 : Int32) (k52 : MS → Int32 → Int32 → Int32 → Int32 → Option (Int64 × MS)) (s : MS) (v3 : Int32) (v4 : Int32) (v5 : Int32) (v6 : Int32) : Option (Int64 × MS) :=
  if v3 ≤ ((v6 + a1) + 1) then
    if v4 = 0 then
      bk_Mo_deviation_120 a1 a2 s
    else
      if 2 ≤ v5 then
        bk_Mo_deviation_136 a1 a2 200 s v3 v5 0 1 0
      else
        bk_Mo_deviation_120 a1 a2 s
  else
    ct_ob (fn_Mo_takes s v6 a1 v3) fun x6 =>
    if x6 = 0 then
      bk_Mo_deviation_103 a1 a2 k52 s v3 v4 v5 v6
    else
      if v4 = 0 then
        bk_Mo_deviation_103 a1 a2 k52 s v3 0 (v5 + 1) v6
      else
        ct_gd (ct_inR ((6 * v6) + a1) 36) <|
        if (ms_A s 8 ((6 * v6) + a1).toNatClampNeg) = 0 then
          bk_Mo_deviation_103 a1 a2 k52 s v3 0 (v5 + 1) v6
        else
          bk_Mo_deviation_103 a1 a2 k52 s v3 1 (v5 + 1) v6
def bk_Mo_deviation_52 (a1 : Int32) (a2 : Int32) : Nat → MS → Int32 → Int32 → Int32 → Int32 → Option (Int64 × MS)
  | 0 => fun _ _ _ _ _ => none
  | n + 1 => bk_Mo_deviation_52_o a1 a2 (bk_Mo_deviation_52 a1 a2 n)
def bk_Mo_deviation_22 (a1 : Int32) (a2 : Int32) (s : MS) (t1 : Int32) (v3 : Int32) : Option (Int64 × MS) :=
  ct_nm (ms_I' s 0 t1) fun s2 =>
  if (ms_I s2 0) = 0 then
    ct_ob (fn_Mo_look s2) fun s3 =>
    ct_ob2 (fn_Mo_find s3 0 a1) fun x4 s5 =>
    bk_Mo_deviation_52 a1 a2 200 s5 v3 x4 0 0
  else
    some (0, s2)
def fn_Mo_deviation (s : MS) (a1 : Int32) (a2 : Int32) : Option (Int64 × MS) :=
  ct_ob (fn_Mo_left s) fun x1 =>
  if a1 < 0 then
    bk_Mo_deviation_22 a1 a2 s 1 x1
  else
    if a1 ≤ (x1 - 2) then
      bk_Mo_deviation_22 a1 a2 s 0 x1
    else
      bk_Mo_deviation_22 a1 a2 s 1 x1
def bk_Mo_error_35 (a1 : Int32) (a2 : Int32) (a3 : Int32) (s : MS) (t1 : Int32) (v4 : Int32) : Option (Int64 × MS) :=
  ct_nm (ms_I' s 0 t1) fun s2 =>
  if (ms_I s2 0) = 0 then
    ct_ob (fn_Mo_look s2) fun s3 =>
    ct_nm ((v4 - 1) - a2) fun x4 =>
    ct_nm (((ms_I s3 5) - 2) - a2) fun x5 =>
    ct_ob2 (fn_Mo_areDefined s3 a1 x4 x5) fun x6 s7 =>
    if ¬ x6 = 0 then
      ct_ob (fn_Mo_way s7 a1 x4 x5) fun s8 =>
      ct_ob (fn_Mo_latestOf s8 a2) fun x9 =>
      ct_ob (fn_Mo_times s8 x9.toInt64 1) fun s10 =>
      ct_gd (ct_inR ((((6 * a2) + (ms_I s10 5)) - 1) - a2) 36) <|
      ct_ob (fn_Mo_plus s10 ((-(ms_A s10 8 ((((6 * a2) + (ms_I s10 5)) - 1) - a2).toNatClampNeg)).toInt64) 1) fun s11 =>
      ct_ob (fn_Mo_answer s11) fun x12 =>
      ct_ob2 (fn_Mo_told s11 x12 a3) fun x13 s14 =>
      some (x13, s14)
    else
      ct_ob2 (fn_Mo_told s7 2 a3) fun x15 s16 =>
      some (x15, s16)
  else
    some (0, s2)
def fn_Mo_error (s : MS) (a1 : Int32) (a2 : Int32) (a3 : Int32) : Option (Int64 × MS) :=
  ct_ob (fn_Mo_left s) fun x1 =>
  if a1 < 0 then
    bk_Mo_error_35 a1 a2 a3 s 1 x1
  else
    if 1 < a1 then
      bk_Mo_error_35 a1 a2 a3 s 1 x1
    else
      if a2 < (ms_I s 6) then
        bk_Mo_error_35 a1 a2 a3 s 1 x1
      else
        if a2 < x1 then
          bk_Mo_error_35 a1 a2 a3 s 0 x1
        else
          bk_Mo_error_35 a1 a2 a3 s 1 x1
def bk_Mo_diagonal_81 (a1 : Int32) (k38 : MS → Int32 → Int32 → Option (Int32 × MS)) (s : MS) (t0 : Int32) (t1 : Int32) (t2 : Int32) (v3 : Int32) : Option (Int32 × MS) :=
  ct_nm (t0 + (t1 - t2)) fun x4 =>
  k38 s x4 (v3 + 1)
def bk_Mo_diagonal_38_o (a1 : Int32) (k38 : MS → Int32 → Int32 → Option (Int32 × MS)) (s : MS) (v2 : Int32) (v3 : Int32) : Option (Int32 × MS) :=
  if a1 < v3 then
    some (v2, s)
  else
    ct_gd (ct_inR (((6 * v3) + a1) - v3) 36) <|
    if ¬ a1 = v3 then
      ct_gd (ct_inR ((((6 * v3) + a1) - v3) - 1) 36) <|
      bk_Mo_diagonal_81 a1 k38 s v2 (ms_A s 8 (((6 * v3) + a1) - v3).toNatClampNeg) (ms_A s 8 ((((6 * v3) + a1) - v3) - 1).toNatClampNeg) v3
    else
      bk_Mo_diagonal_81 a1 k38 s v2 (ms_A s 8 (((6 * v3) + a1) - v3).toNatClampNeg) 0 v3
def bk_Mo_diagonal_38 (a1 : Int32) : Nat → MS → Int32 → Int32 → Option (Int32 × MS)
  | 0 => fun _ _ _ => none
  | n + 1 => bk_Mo_diagonal_38_o a1 (bk_Mo_diagonal_38 a1 n)
def bk_Mo_diagonal_18 (a1 : Int32) (s : MS) (t1 : Int32) : Option (Int32 × MS) :=
  ct_nm (ms_I' s 0 t1) fun s2 =>
  if (ms_I s2 0) = 0 then
    ct_ob (fn_Mo_look s2) fun s3 =>
    bk_Mo_diagonal_38 a1 200 s3 0 0
  else
    some (0, s2)
def fn_Mo_diagonal (s : MS) (a1 : Int32) : Option (Int32 × MS) :=
  if a1 < 0 then
    bk_Mo_diagonal_18 a1 s 1
  else
    ct_ob (fn_Mo_left s) fun x1 =>
    if a1 < x1 then
      bk_Mo_diagonal_18 a1 s 0
    else
      bk_Mo_diagonal_18 a1 s 1
def bk_Mo_count_98 (a1 : Int32) (k25 : MS → Int32 → Int32 → Int32 → Option (Int32 × MS)) (s : MS) (t0 : Int32) (t1 : Int32) (v2 : Int32) (v4 : Int32) : Option (Int32 × MS) :=
  ct_nm (t0 + t1) fun x4 =>
  k25 s v2 x4 (v4 + 1)
def bk_Mo_count_50 (a1 : Int32) (k25 : MS → Int32 → Int32 → Int32 → Option (Int32 × MS)) (s : MS) (t0 : Int32) (t1 : Int32) (v3 : Int32) (v4 : Int32) : Option (Int32 × MS) :=
  ct_nm (t0 + t1) fun x3 =>
  ct_gd (ct_inR v4 60) <|
  if ¬ (ms_A s 5 v4.toNatClampNeg) = 0 then
    bk_Mo_count_98 a1 k25 s v3 0 x3 v4
  else
    ct_gd (ct_inR v4 60) <|
    if (ms_A s 4 v4.toNatClampNeg) = 0 then
      bk_Mo_count_98 a1 k25 s v3 0 x3 v4
    else
      ct_gd (ct_inR v4 60) <|
      if ¬ (ms_A s 0 v4.toNatClampNeg) = (ms_I s 2) then
        bk_Mo_count_98 a1 k25 s v3 0 x3 v4
      else
        ct_gd (ct_inR v4 60) <|
        bk_Mo_count_98 a1 k25 s v3 (ms_A s 3 v4.toNatClampNeg) x3 v4
def bk_Mo_count_25_o (a1 : Int32) (k25 : MS → Int32 → Int32 → Int32 → Option (Int32 × MS)) (s : MS) (v2 : Int32) (v3 : Int32) (v4 : Int32) : Option (Int32 × MS) :=
  if (ms_I s 1) ≤ v4 then
    if (ms_I s 0) = 0 then
      if a1 = 0 then
        some (ms_I s 1, s)
      else
      if a1 = 1 then
        some (v2, s)
      else
      if a1 = 2 then
        ct_ob (fn_Mo_left s) fun x2 =>
        some (x2, s)
      else
      if a1 = 3 then
        some (ms_I s 6, s)
      else
      some (v3, s)
    else
      some (0, s)
  else
    ct_gd (ct_inR v4 60) <|
    if (ms_A s 5 v4.toNatClampNeg) = 0 then
      bk_Mo_count_50 a1 k25 s v2 1 v3 v4
    else
      bk_Mo_count_50 a1 k25 s v2 0 v3 v4
def bk_Mo_count_25 (a1 : Int32) : Nat → MS → Int32 → Int32 → Int32 → Option (Int32 × MS)
  | 0 => fun _ _ _ _ => none
  | n + 1 => bk_Mo_count_25_o a1 (bk_Mo_count_25 a1 n)
def bk_Mo_count_15 (a1 : Int32) (s : MS) (t1 : Int32) : Option (Int32 × MS) :=
  ct_nm (ms_I' s 0 t1) fun s1 =>
  bk_Mo_count_25 a1 200 s1 0 0 0
def fn_Mo_count (s : MS) (a1 : Int32) : Option (Int32 × MS) :=
  if a1 < 0 then
    bk_Mo_count_15 a1 s 1
  else
    if a1 ≤ 4 then
      bk_Mo_count_15 a1 s 0
    else
      bk_Mo_count_15 a1 s 1
