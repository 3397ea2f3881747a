/-! the code lists are what the machine decodes: decided, a row a method -/
def lenI (i : Jvm.ClassFile.Instr) : Nat := match i with
  | .bipush _ => 2
  | .sipush _ => 3
  | .ldc _ => 2
  | .ldc_w _ => 3
  | .ldc2_w _ => 3
  | .iload _ => 2
  | .aload _ => 2
  | .istore _ => 2
  | .iinc _ _ => 3
  | .ifCond _ _ => 3
  | .if_icmp _ _ => 3
  | .goto _ => 3
  | .getfield _ => 3
  | .putfield _ => 3
  | .newarray _ => 2
  | .new _ => 3
  | .invokevirtual _ => 3
  | .invokespecial _ => 3
  | .invokestatic _ => 3
  | .tableswitch _ _ _ _ => 0
  | _ => 1
def ckd (cc : ByteArray) (q : Nat × Jvm.ClassFile.Instr) : Bool := match decode cc q.1 with
  | .ok (j, n) => decide (j = q.2) && (Nat.beq (lenI q.2) 0 || Nat.beq n (lenI q.2))
  | .error _ => false
def ckM (t : List (Nat × Jvm.ClassFile.Instr)) (cc : ByteArray) : Bool := t.all (ckd cc)
theorem ck_0 : ckM tb_0 cX0_init = true := by decide +kernel
theorem ck_1 : ckM tb_1 cX0_forget = true := by decide +kernel
theorem ck_2 : ckM tb_2 cX0_tell = true := by decide +kernel
theorem ck_3 : ckM tb_3 cX0_back = true := by decide +kernel
theorem ck_4 : ckM tb_4 cX0_again = true := by decide +kernel
theorem ck_5 : ckM tb_5 cX0_dropOldest = true := by decide +kernel
theorem ck_6 : ckM tb_6 cX0_get = true := by decide +kernel
theorem ck_7 : ckM tb_7 cX0_put = true := by decide +kernel
theorem ck_8 : ckM tb_8 cX1_init = true := by decide +kernel
theorem ck_9 : ckM tb_9 cX1_takenBy = true := by decide +kernel
theorem ck_10 : ckM tb_10 cX1_sendsOf = true := by decide +kernel
theorem ck_11 : ckM tb_11 cX1_sentBy = true := by decide +kernel
theorem ck_12 : ckM tb_12 cX2_init = true := by decide +kernel
theorem ck_13 : ckM tb_13 cX2_full = true := by decide +kernel
theorem ck_14 : ckM tb_14 cX2_add = true := by decide +kernel
theorem ck_15 : ckM tb_15 cX3_init = true := by decide +kernel
theorem ck_16 : ckM tb_16 cX3_full = true := by decide +kernel
theorem ck_17 : ckM tb_17 cX3_add = true := by decide +kernel
theorem ck_18 : ckM tb_18 cX3_making = true := by decide +kernel
theorem ck_19 : ckM tb_19 cX4_init = true := by decide +kernel
theorem ck_20 : ckM tb_20 cX4_add = true := by decide +kernel
theorem ck_21 : ckM tb_21 cX4_warmth = true := by decide +kernel
theorem ck_22 : ckM tb_22 cX4_flapCode = true := by decide +kernel
theorem ck_23 : ckM tb_23 cX4_setFlap = true := by decide +kernel
theorem ck_24 : ckM tb_24 cX5_init = true := by decide +kernel
theorem ck_25 : ckM tb_25 cX5_append = true := by decide +kernel
theorem ck_26 : ckM tb_26 cX5_accept = true := by decide +kernel
theorem ck_27 : ckM tb_27 cX5_rules = true := by decide +kernel
theorem ck_28 : ckM tb_28 cX5_told = true := by decide +kernel
theorem ck_29 : ckM tb_29 cX5_holds = true := by decide +kernel
theorem ck_30 : ckM tb_30 cX5_next = true := by decide +kernel
theorem ck_31 : ckM tb_31 cX5_take = true := by decide +kernel
theorem ck_32 : ckM tb_32 cX5_write = true := by decide +kernel
theorem ck_33 : ckM tb_33 cX5_digit = true := by decide +kernel
theorem ck_34 : ckM tb_34 cX5_subject = true := by decide +kernel
theorem ck_35 : ckM tb_35 cX5_hasFlap = true := by decide +kernel
theorem ck_36 : ckM tb_36 cX5_cases = true := by decide +kernel
theorem ck_37 : ckM tb_37 cX5_terms = true := by decide +kernel
theorem ck_38 : ckM tb_38 cX5_parts = true := by decide +kernel
theorem ck_39 : ckM tb_39 cX5_part = true := by decide +kernel
theorem ck_40 : ckM tb_40 cX5_fact = true := by decide +kernel
theorem ck_41 : ckM tb_41 cX6_init = true := by decide +kernel
theorem ck_42 : ckM tb_42 cX6_pass = true := by decide +kernel
theorem ck_43 : ckM tb_43 cX6_heed = true := by decide +kernel
theorem ck_44 : ckM tb_44 cX6_exchange = true := by decide +kernel
theorem ck_45 : ckM tb_45 cX6_make = true := by decide +kernel
theorem ck_46 : ckM tb_46 cX6_lead = true := by decide +kernel
theorem ck_47 : ckM tb_47 cX6_settleHeats = true := by decide +kernel
theorem ck_48 : ckM tb_48 cX6_repeated = true := by decide +kernel
theorem ck_49 : ckM tb_49 cX6_alike = true := by decide +kernel
theorem ck_50 : ckM tb_50 cX6_sameRows = true := by decide +kernel
theorem ck_51 : ckM tb_51 cX6_keep = true := by decide +kernel
theorem ck_52 : ckM tb_52 cX6_restore = true := by decide +kernel
theorem ck_53 : ckM tb_53 cX6_bestHours = true := by decide +kernel
theorem ck_54 : ckM tb_54 cX6_choose = true := by decide +kernel
theorem ck_55 : ckM tb_55 cX6_mayBeBetter = true := by decide +kernel
theorem ck_56 : ckM tb_56 cX7_init = true := by decide +kernel
theorem ck_57 : ckM tb_57 cX7_asNow = true := by decide +kernel
theorem ck_58 : ckM tb_58 cX7_inCan = true := by decide +kernel
theorem ck_59 : ckM tb_59 cX7_only = true := by decide +kernel
theorem ck_60 : ckM tb_60 cX7_stretch = true := by decide +kernel
theorem ck_61 : ckM tb_61 cX7_putBoxes = true := by decide +kernel
theorem ck_62 : ckM tb_62 cX7_warmthOf = true := by decide +kernel
theorem ck_63 : ckM tb_63 cX7_hottest = true := by decide +kernel
theorem ck_64 : ckM tb_64 cX7_thawOne = true := by decide +kernel
theorem ck_65 : ckM tb_65 cX7_settle = true := by decide +kernel
