section
variable {X : xS} {d : Nat} {o : xO} {mf wf : Nat → Int32} {q : xQ} {f0 f1 f2 : Nat → Int32} {lk : Nat → Nat → Int32} {L : Nat} {t : Tk}
set_option maxRecDepth 100000 in
theorem ev_J0_coder_7d493 {w : Nat} (hw : w < 16) : xDv X false (d + 0) mJ0_coder_7d493 [.ref (1100 + w)] (hp lk o mf wf q) [.int 0] (hp lk o mf wf q) := by
  refine xDv.of (ls := [some (.ref (1100 + w))]) mcJ0_coder_7d493.1.2.2.2.2 (Nat.le_of_ble_eq_true rfl) rfl ?_
  refine xg_gsC (pc := 0) dJ0_coder_7d493_0 slJ0_38 ?_
  refine xg_if_eq (pc := 3) (tgt := 13) dJ0_coder_7d493_3 (by decide) (fun c_3 => absurd c_3 (by decide)) (fun c_3 => ?_)
  refine xg_aload_n (pc := 6) dJ0_coder_7d493_6 rfl ?_
  refine xg_scod (i := w) (pc := 7) dJ0_coder_7d493_7 slJ0_15 hw ?_
  refine xg_goto (pc := 10) (tgt := 14) dJ0_coder_7d493_10 (by decide) ?_
  exact xg_zret (pc := 14) (ty := .byte) dJ0_coder_7d493_14 rfl rfl (⟨by rfl, rfl⟩)
theorem shr0 (x : Int32) : x >>> ((0 : Int32) &&& 31) = x := by
  rw [show (0 : Int32) &&& 31 = 0 from by decide, Int32.shiftRight_zero]
set_option maxRecDepth 100000 in
theorem ev_J0_length_8abf5 {w : Nat} (hw : w < 16) : xDv X false (d + 1) mJ0_length_8abf5 [.ref (1100 + w)] (hp lk o mf wf q) [.int (nI (xln.getD w 0))] (hp lk o mf wf q) := by
  refine xDv.of (ls := [some (.ref (1100 + w))]) mcJ0_length_8abf5.1.2.2.2.2 (Nat.le_of_ble_eq_true rfl) rfl ?_
  refine xg_aload_n (pc := 0) dJ0_length_8abf5_0 rfl ?_
  refine xg_sval (i := w) (pc := 1) dJ0_length_8abf5_1 slJ0_9 hw ?_
  refine xg_blen (i := w) (pc := 4) dJ0_length_8abf5_4 hw ?_
  refine xg_aload_n (pc := 5) dJ0_length_8abf5_5 rfl ?_
  refine xg_ctI (pc := 6) (h1 := hp lk o mf wf q) (x := 0) (M' := mJ0_coder_7d493) (i := w) dJ0_length_8abf5_6 lkJ0_335 mcJ0_coder_7d493 hw rfl (ev_J0_coder_7d493 hw) rfl rfl (Nat.le_of_ble_eq_true rfl) ?_
  refine xg_ishr (pc := 9) dJ0_length_8abf5_9 ?_
  refine xg_eq (shr0 _) ?_
  exact xg_iret (pc := 10) dJ0_length_8abf5_10 rfl (⟨by rfl, rfl⟩)
set_option maxRecDepth 100000 in
theorem ev_J0_isLatin1_aae02 {w : Nat} (hw : w < 16) : xDv X false (d + 0) mJ0_isLatin1_aae02 [.ref (1100 + w)] (hp lk o mf wf q) [.int 1] (hp lk o mf wf q) := by
  refine xDv.of (ls := [some (.ref (1100 + w))]) mcJ0_isLatin1_aae02.1.2.2.2.2 (Nat.le_of_ble_eq_true rfl) rfl ?_
  refine xg_gsC (pc := 0) dJ0_isLatin1_aae02_0 slJ0_38 ?_
  refine xg_if_eq (pc := 3) (tgt := 17) dJ0_isLatin1_aae02_3 (by decide) (fun c_3 => absurd c_3 (by decide)) (fun c_3 => ?_)
  refine xg_aload_n (pc := 6) dJ0_isLatin1_aae02_6 rfl ?_
  refine xg_scod (i := w) (pc := 7) dJ0_isLatin1_aae02_7 slJ0_15 hw ?_
  refine xg_if_ne (pc := 10) (tgt := 17) dJ0_isLatin1_aae02_10 (by decide) (fun c_10 => absurd c_10 (by decide)) (fun c_10 => ?_)
  refine xg_iconst (v := 1) (pc := 13) dJ0_isLatin1_aae02_13 (by decide) ?_
  refine xg_goto (pc := 14) (tgt := 18) dJ0_isLatin1_aae02_14 (by decide) ?_
  exact xg_zret (pc := 18) (ty := .boolean) dJ0_isLatin1_aae02_18 rfl rfl (⟨by rfl, rfl⟩)
set_option maxRecDepth 100000 in
theorem ev_J3_checkIndex_8e157 {i n : Nat} (hi : i < n) (hn : n < 2 ^ 31) : xDv X false (d + 0) mJ3_checkIndex_8e157 [.int (nI i), .int (nI n), .float 0] (hp lk o mf wf q) [.int (nI i)] (hp lk o mf wf q) := by
  refine xDv.of (ls := [some (.int (nI i)), some (.int (nI n)), some (.float 0)]) mcJ3_checkIndex_8e157.1.2.2.2.2 (Nat.le_of_ble_eq_true rfl) rfl ?_
  refine xg_iload_n (pc := 0) dJ3_checkIndex_8e157_0 rfl ?_
  refine xg_if_lt (pc := 1) (tgt := 9) dJ3_checkIndex_8e157_1 (by decide) (fun c_1 => absurd c_1 (nI_pos (by omega))) (fun c_1 => ?_)
  refine xg_iload_n (pc := 4) dJ3_checkIndex_8e157_4 rfl ?_
  refine xg_iload_n (pc := 5) dJ3_checkIndex_8e157_5 rfl ?_
  refine xg_icmp_lt (pc := 6) (tgt := 16) dJ3_checkIndex_8e157_6 (by decide) (fun c_6 => ?_) (fun c_6 => absurd c_6 (fun q => q (nI_lt (by omega) (by omega))))
  refine xg_iload_n (pc := 16) dJ3_checkIndex_8e157_16 rfl ?_
  exact xg_iret (pc := 17) dJ3_checkIndex_8e157_17 rfl (⟨by rfl, rfl⟩)
set_option maxRecDepth 100000 in
theorem ev_J0_checkIndex_df160 {i n : Nat} (hi : i < n) (hn : n < 2 ^ 31) : xDv X false (d + 1) mJ0_checkIndex_df160 [.int (nI i), .int (nI n)] (hp lk o mf wf q) [] (hp lk o mf wf q) := by
  refine xDv.of (ls := [some (.int (nI i)), some (.int (nI n))]) mcJ0_checkIndex_df160.1.2.2.2.2 (Nat.le_of_ble_eq_true rfl) rfl ?_
  refine xg_iload_n (pc := 0) dJ0_checkIndex_df160_0 rfl ?_
  refine xg_iload_n (pc := 1) dJ0_checkIndex_df160_1 rfl ?_
  refine xg_gsS (pc := 2) dJ0_checkIndex_df160_2 slJ0_1053 ?_
  refine xg_csI (pc := 5) (h1 := hp lk o mf wf q) (x := nI i) (M' := mJ3_checkIndex_8e157) dJ0_checkIndex_df160_5 lkJ0_1059 mcJ3_checkIndex_8e157 (ev_J3_checkIndex_8e157 (by omega) (by omega)) rfl rfl (Nat.le_of_ble_eq_true rfl) ?_
  refine xg_pop (pc := 8) dJ0_checkIndex_df160_8 rfl ?_
  exact xg_ret (pc := 9) dJ0_checkIndex_df160_9 rfl (⟨rfl, rfl⟩)
theorem by_c : ∀ w, w < 16 → ∀ i, i < xln.getD w 0 → narrow .char (.int ((xby.getD w []).getD i 0)) = .int ((xby.getD w []).getD i 0) := by decide
set_option maxRecDepth 100000 in
theorem ev_J1_charAt_3b067 {w i : Nat} (hw : w < 16) (hi : i < xln.getD w 0) : xDv X false (d + 2) mJ1_charAt_3b067 [.ref (1200 + w), .int (nI i)] (hp lk o mf wf q) [.int ((xby.getD w []).getD i 0)] (hp lk o mf wf q) := by
  have hl7 := ln_ok w hw
  refine xDv.of (ls := [some (.ref (1200 + w)), some (.int (nI i))]) mcJ1_charAt_3b067.1.2.2.2.2 (Nat.le_of_ble_eq_true rfl) rfl ?_
  refine xg_iload_n (pc := 0) dJ1_charAt_3b067_0 rfl ?_
  refine xg_aload_n (pc := 1) dJ1_charAt_3b067_1 rfl ?_
  refine xg_blen (i := w) (pc := 2) dJ1_charAt_3b067_2 hw ?_
  refine xg_csV (pc := 3) (h1 := hp lk o mf wf q) (M' := mJ0_checkIndex_df160) dJ1_charAt_3b067_3 lkJ1_9 mcJ0_checkIndex_df160 (ev_J0_checkIndex_df160 (by omega) (by omega)) rfl rfl (Nat.le_of_ble_eq_true rfl) ?_
  refine xg_aload_n (pc := 6) dJ1_charAt_3b067_6 rfl ?_
  refine xg_iload_n (pc := 7) dJ1_charAt_3b067_7 rfl ?_
  refine xg_bbald (i := w) (pc := 8) i dJ1_charAt_3b067_8 hw rfl (by omega) (by omega) ?_
  refine xg_sipush (v := 255) (pc := 9) dJ1_charAt_3b067_9 (by decide) ?_
  refine xg_iand (pc := 12) dJ1_charAt_3b067_12 ?_
  refine xg_i2c (pc := 13) dJ1_charAt_3b067_13 ?_
  refine xg_eq (by_ok w hw i hi) ?_
  exact xg_zret (pc := 14) (ty := .char) dJ1_charAt_3b067_14 rfl (by_c w hw i hi) (⟨by rfl, rfl⟩)
set_option maxRecDepth 100000 in
theorem ev_J0_charAt_5068e {w i : Nat} (hw : w < 16) (hi : i < xln.getD w 0) : xDv X false (d + 3) mJ0_charAt_5068e [.ref (1100 + w), .int (nI i)] (hp lk o mf wf q) [.int ((xby.getD w []).getD i 0)] (hp lk o mf wf q) := by
  refine xDv.of (ls := [some (.ref (1100 + w)), some (.int (nI i))]) mcJ0_charAt_5068e.1.2.2.2.2 (Nat.le_of_ble_eq_true rfl) rfl ?_
  refine xg_aload_n (pc := 0) dJ0_charAt_5068e_0 rfl ?_
  refine xg_ctI (pc := 1) (h1 := hp lk o mf wf q) (x := 1) (M' := mJ0_isLatin1_aae02) (i := w) dJ0_charAt_5068e_1 lkJ0_492 mcJ0_isLatin1_aae02 hw rfl (ev_J0_isLatin1_aae02 hw) rfl rfl (Nat.le_of_ble_eq_true rfl) ?_
  refine xg_if_eq (pc := 4) (tgt := 16) dJ0_charAt_5068e_4 (by decide) (fun c_4 => absurd c_4 (by decide)) (fun c_4 => ?_)
  refine xg_aload_n (pc := 7) dJ0_charAt_5068e_7 rfl ?_
  refine xg_sval (i := w) (pc := 8) dJ0_charAt_5068e_8 slJ0_9 hw ?_
  refine xg_iload_n (pc := 11) dJ0_charAt_5068e_11 rfl ?_
  refine xg_csI (pc := 12) (h1 := hp lk o mf wf q) (x := (xby.getD w []).getD i 0) (M' := mJ1_charAt_3b067) dJ0_charAt_5068e_12 lkJ0_495 mcJ1_charAt_3b067 (ev_J1_charAt_3b067 hw hi) rfl rfl (Nat.le_of_ble_eq_true rfl) ?_
  exact xg_zret (pc := 15) (ty := .char) dJ0_charAt_5068e_15 rfl (by_c w hw i hi) (⟨by rfl, rfl⟩)
set_option maxRecDepth 100000 in
theorem ev_X4_typeAt {a : Nat} (hL : o.2.2.1 = nI L) (hL2 : L ≤ 120) (ha : a ≤ L) : xDv X false (d + 0) mX4_typeAt [.ref 51, .int (nI a)] (hp lk o mf wf q) [.int (nI (tyA o.2.2.2.1 L a))] (hp lk o mf wf q) := by
  refine xDv.of (ls := [some (.ref 51), some (.int (nI a)), none]) mcX4_typeAt.1.2.2.2.2 (Nat.le_of_ble_eq_true rfl) rfl ?_
  refine xg_iload_n (pc := 0) dX4_typeAt_0 rfl ?_
  refine xg_if_lt (pc := 1) (tgt := 21) dX4_typeAt_1 (by decide) (fun c_1 => absurd c_1 (nI_pos (by omega))) (fun c_1 => ?_)
  refine xg_iload_n (pc := 4) dX4_typeAt_4 rfl ?_
  refine xg_aload_n (pc := 5) dX4_typeAt_5 rfl ?_
  refine xg_get (pc := 6) dX4_typeAt_6 flX4_9 hp_51 rfl ?_
  refine xg_get (pc := 9) dX4_typeAt_9 flX4_126 hp_49 rfl ?_
  refine xg_eq hL ?_
  refine xg_icmp_ge (pc := 12) (tgt := 21) dX4_typeAt_12 (by decide) (fun c_12 => ?_) (fun c_12 => ?_)
  ·
    refine xg_iconst (v := 0) (pc := 21) dX4_typeAt_21 (by decide) ?_
    exact xg_iret (pc := 22) dX4_typeAt_22 rfl (⟨by rw [tyA, if_neg (fun z => nI_ge z (by omega) c_12)]; rfl, rfl⟩)
  ·
    refine xg_iload_n (pc := 15) dX4_typeAt_15 rfl ?_
    refine xg_bipush (v := 120) (pc := 16) dX4_typeAt_16 (by decide) ?_
    refine xg_icmp_lt (pc := 18) (tgt := 23) dX4_typeAt_18 (by decide) (fun c_18 => ?_) (fun c_18 => absurd c_18 (fun q => q (nI_lt (b := 120) (by have z := Nat.lt_of_not_le (fun z => c_12 (nI_le z (by omega))); omega) (by omega))))
    have haL : a < L := Nat.lt_of_not_le (fun z => c_12 (nI_le z (by omega)))
    refine xg_aload_n (pc := 23) dX4_typeAt_23 rfl ?_
    refine xg_get (pc := 24) dX4_typeAt_24 flX4_9 hp_51 rfl ?_
    refine xg_get (pc := 27) dX4_typeAt_27 flX4_116 hp_49 rfl ?_
    refine xg_iload_n (pc := 30) dX4_typeAt_30 rfl ?_
    refine xg_iald (pc := 31) a dX4_typeAt_31 hp_50 rfl (by omega) (by decide) ?_
    refine xg_istore_n (pc := 32) (ls' := [some (.ref 51), some (.int (nI a)), some (.int (o.2.2.2.1 a))]) dX4_typeAt_32 (by decide) rfl ?_
    refine xg_iload_n (pc := 33) dX4_typeAt_33 rfl ?_
    refine xg_bipush (v := 97) (pc := 34) dX4_typeAt_34 (by decide) ?_
    refine xg_icmp_lt (pc := 36) (tgt := 47) dX4_typeAt_36 (by decide) (fun c_36 => ?_) (fun c_36 => ?_)
    ·
      refine xg_iload_n (pc := 47) dX4_typeAt_47 rfl ?_
      refine xg_bipush (v := 48) (pc := 48) dX4_typeAt_48 (by decide) ?_
      refine xg_icmp_lt (pc := 50) (tgt := 61) dX4_typeAt_50 (by decide) (fun c_50 => ?_) (fun c_50 => ?_)
      ·
        refine xg_iload_n (pc := 61) dX4_typeAt_61 rfl ?_
        refine xg_bipush (v := 59) (pc := 62) dX4_typeAt_62 (by decide) ?_
        refine xg_icmp_ne (pc := 64) (tgt := 69) dX4_typeAt_64 (by decide) (fun c_64 => ?_) (fun c_64 => ?_)
        ·
          refine xg_iload_n (pc := 69) dX4_typeAt_69 rfl ?_
          refine xg_bipush (v := 32) (pc := 70) dX4_typeAt_70 (by decide) ?_
          refine xg_icmp_ne (pc := 72) (tgt := 79) dX4_typeAt_72 (by decide) (fun c_72 => ?_) (fun c_72 => ?_)
          ·
            refine xg_iconst (v := 5) (pc := 79) dX4_typeAt_79 (by decide) ?_
            exact xg_iret (pc := 80) dX4_typeAt_80 rfl (⟨by rw [tyA, if_pos (show a < L from Nat.lt_of_not_le (fun z => c_12 (nI_le z (by omega)))), ty1, if_neg (fun z => Int32.not_lt.mpr z.1 c_36), if_neg (fun z => Int32.not_lt.mpr z.1 c_50), if_neg c_64, if_neg c_72]; rfl, rfl⟩)
          ·
            refine xg_iconst (v := 4) (pc := 75) dX4_typeAt_75 (by decide) ?_
            refine xg_goto (pc := 76) (tgt := 80) dX4_typeAt_76 (by decide) ?_
            exact xg_iret (pc := 80) dX4_typeAt_80 rfl (⟨by rw [tyA, if_pos (show a < L from Nat.lt_of_not_le (fun z => c_12 (nI_le z (by omega)))), ty1, if_neg (fun z => Int32.not_lt.mpr z.1 c_36), if_neg (fun z => Int32.not_lt.mpr z.1 c_50), if_neg c_64, if_pos c_72]; rfl, rfl⟩)
        ·
          refine xg_iconst (v := 3) (pc := 67) dX4_typeAt_67 (by decide) ?_
          exact xg_iret (pc := 68) dX4_typeAt_68 rfl (⟨by rw [tyA, if_pos (show a < L from Nat.lt_of_not_le (fun z => c_12 (nI_le z (by omega)))), ty1, if_neg (fun z => Int32.not_lt.mpr z.1 c_36), if_neg (fun z => Int32.not_lt.mpr z.1 c_50), if_pos c_64]; rfl, rfl⟩)
      ·
        refine xg_iload_n (pc := 53) dX4_typeAt_53 rfl ?_
        refine xg_bipush (v := 57) (pc := 54) dX4_typeAt_54 (by decide) ?_
        refine xg_icmp_gt (pc := 56) (tgt := 61) dX4_typeAt_56 (by decide) (fun c_56 => ?_) (fun c_56 => ?_)
        ·
          refine xg_iload_n (pc := 61) dX4_typeAt_61 rfl ?_
          refine xg_bipush (v := 59) (pc := 62) dX4_typeAt_62 (by decide) ?_
          refine xg_icmp_ne (pc := 64) (tgt := 69) dX4_typeAt_64 (by decide) (fun c_64 => ?_) (fun c_64 => ?_)
          ·
            refine xg_iload_n (pc := 69) dX4_typeAt_69 rfl ?_
            refine xg_bipush (v := 32) (pc := 70) dX4_typeAt_70 (by decide) ?_
            refine xg_icmp_ne (pc := 72) (tgt := 79) dX4_typeAt_72 (by decide) (fun c_72 => ?_) (fun c_72 => ?_)
            ·
              refine xg_iconst (v := 5) (pc := 79) dX4_typeAt_79 (by decide) ?_
              exact xg_iret (pc := 80) dX4_typeAt_80 rfl (⟨by rw [tyA, if_pos (show a < L from Nat.lt_of_not_le (fun z => c_12 (nI_le z (by omega)))), ty1, if_neg (fun z => Int32.not_lt.mpr z.1 c_36), if_neg (fun z => Int32.not_lt.mpr z.2 c_56), if_neg c_64, if_neg c_72]; rfl, rfl⟩)
            ·
              refine xg_iconst (v := 4) (pc := 75) dX4_typeAt_75 (by decide) ?_
              refine xg_goto (pc := 76) (tgt := 80) dX4_typeAt_76 (by decide) ?_
              exact xg_iret (pc := 80) dX4_typeAt_80 rfl (⟨by rw [tyA, if_pos (show a < L from Nat.lt_of_not_le (fun z => c_12 (nI_le z (by omega)))), ty1, if_neg (fun z => Int32.not_lt.mpr z.1 c_36), if_neg (fun z => Int32.not_lt.mpr z.2 c_56), if_neg c_64, if_pos c_72]; rfl, rfl⟩)
          ·
            refine xg_iconst (v := 3) (pc := 67) dX4_typeAt_67 (by decide) ?_
            exact xg_iret (pc := 68) dX4_typeAt_68 rfl (⟨by rw [tyA, if_pos (show a < L from Nat.lt_of_not_le (fun z => c_12 (nI_le z (by omega)))), ty1, if_neg (fun z => Int32.not_lt.mpr z.1 c_36), if_neg (fun z => Int32.not_lt.mpr z.2 c_56), if_pos c_64]; rfl, rfl⟩)
        ·
          refine xg_iconst (v := 2) (pc := 59) dX4_typeAt_59 (by decide) ?_
          exact xg_iret (pc := 60) dX4_typeAt_60 rfl (⟨by rw [tyA, if_pos (show a < L from Nat.lt_of_not_le (fun z => c_12 (nI_le z (by omega)))), ty1, if_neg (fun z => Int32.not_lt.mpr z.1 c_36), if_pos ⟨Int32.not_lt.mp c_50, Int32.not_lt.mp c_56⟩]; rfl, rfl⟩)
    ·
      refine xg_iload_n (pc := 39) dX4_typeAt_39 rfl ?_
      refine xg_bipush (v := 122) (pc := 40) dX4_typeAt_40 (by decide) ?_
      refine xg_icmp_gt (pc := 42) (tgt := 47) dX4_typeAt_42 (by decide) (fun c_42 => ?_) (fun c_42 => ?_)
      ·
        refine xg_iload_n (pc := 47) dX4_typeAt_47 rfl ?_
        refine xg_bipush (v := 48) (pc := 48) dX4_typeAt_48 (by decide) ?_
        refine xg_icmp_lt (pc := 50) (tgt := 61) dX4_typeAt_50 (by decide) (fun c_50 => ?_) (fun c_50 => ?_)
        ·
          refine xg_iload_n (pc := 61) dX4_typeAt_61 rfl ?_
          refine xg_bipush (v := 59) (pc := 62) dX4_typeAt_62 (by decide) ?_
          refine xg_icmp_ne (pc := 64) (tgt := 69) dX4_typeAt_64 (by decide) (fun c_64 => ?_) (fun c_64 => ?_)
          ·
            refine xg_iload_n (pc := 69) dX4_typeAt_69 rfl ?_
            refine xg_bipush (v := 32) (pc := 70) dX4_typeAt_70 (by decide) ?_
            refine xg_icmp_ne (pc := 72) (tgt := 79) dX4_typeAt_72 (by decide) (fun c_72 => ?_) (fun c_72 => ?_)
            ·
              refine xg_iconst (v := 5) (pc := 79) dX4_typeAt_79 (by decide) ?_
              exact xg_iret (pc := 80) dX4_typeAt_80 rfl (⟨by rw [tyA, if_pos (show a < L from Nat.lt_of_not_le (fun z => c_12 (nI_le z (by omega)))), ty1, if_neg (fun z => Int32.not_lt.mpr z.2 c_42), if_neg (fun z => Int32.not_lt.mpr z.1 c_50), if_neg c_64, if_neg c_72]; rfl, rfl⟩)
            ·
              refine xg_iconst (v := 4) (pc := 75) dX4_typeAt_75 (by decide) ?_
              refine xg_goto (pc := 76) (tgt := 80) dX4_typeAt_76 (by decide) ?_
              exact xg_iret (pc := 80) dX4_typeAt_80 rfl (⟨by rw [tyA, if_pos (show a < L from Nat.lt_of_not_le (fun z => c_12 (nI_le z (by omega)))), ty1, if_neg (fun z => Int32.not_lt.mpr z.2 c_42), if_neg (fun z => Int32.not_lt.mpr z.1 c_50), if_neg c_64, if_pos c_72]; rfl, rfl⟩)
          ·
            refine xg_iconst (v := 3) (pc := 67) dX4_typeAt_67 (by decide) ?_
            exact xg_iret (pc := 68) dX4_typeAt_68 rfl (⟨by rw [tyA, if_pos (show a < L from Nat.lt_of_not_le (fun z => c_12 (nI_le z (by omega)))), ty1, if_neg (fun z => Int32.not_lt.mpr z.2 c_42), if_neg (fun z => Int32.not_lt.mpr z.1 c_50), if_pos c_64]; rfl, rfl⟩)
        ·
          refine xg_iload_n (pc := 53) dX4_typeAt_53 rfl ?_
          refine xg_bipush (v := 57) (pc := 54) dX4_typeAt_54 (by decide) ?_
          refine xg_icmp_gt (pc := 56) (tgt := 61) dX4_typeAt_56 (by decide) (fun c_56 => ?_) (fun c_56 => ?_)
          ·
            refine xg_iload_n (pc := 61) dX4_typeAt_61 rfl ?_
            refine xg_bipush (v := 59) (pc := 62) dX4_typeAt_62 (by decide) ?_
            refine xg_icmp_ne (pc := 64) (tgt := 69) dX4_typeAt_64 (by decide) (fun c_64 => ?_) (fun c_64 => ?_)
            ·
              refine xg_iload_n (pc := 69) dX4_typeAt_69 rfl ?_
              refine xg_bipush (v := 32) (pc := 70) dX4_typeAt_70 (by decide) ?_
              refine xg_icmp_ne (pc := 72) (tgt := 79) dX4_typeAt_72 (by decide) (fun c_72 => ?_) (fun c_72 => ?_)
              ·
                refine xg_iconst (v := 5) (pc := 79) dX4_typeAt_79 (by decide) ?_
                exact xg_iret (pc := 80) dX4_typeAt_80 rfl (⟨by rw [tyA, if_pos (show a < L from Nat.lt_of_not_le (fun z => c_12 (nI_le z (by omega)))), ty1, if_neg (fun z => Int32.not_lt.mpr z.2 c_42), if_neg (fun z => Int32.not_lt.mpr z.2 c_56), if_neg c_64, if_neg c_72]; rfl, rfl⟩)
              ·
                refine xg_iconst (v := 4) (pc := 75) dX4_typeAt_75 (by decide) ?_
                refine xg_goto (pc := 76) (tgt := 80) dX4_typeAt_76 (by decide) ?_
                exact xg_iret (pc := 80) dX4_typeAt_80 rfl (⟨by rw [tyA, if_pos (show a < L from Nat.lt_of_not_le (fun z => c_12 (nI_le z (by omega)))), ty1, if_neg (fun z => Int32.not_lt.mpr z.2 c_42), if_neg (fun z => Int32.not_lt.mpr z.2 c_56), if_neg c_64, if_pos c_72]; rfl, rfl⟩)
            ·
              refine xg_iconst (v := 3) (pc := 67) dX4_typeAt_67 (by decide) ?_
              exact xg_iret (pc := 68) dX4_typeAt_68 rfl (⟨by rw [tyA, if_pos (show a < L from Nat.lt_of_not_le (fun z => c_12 (nI_le z (by omega)))), ty1, if_neg (fun z => Int32.not_lt.mpr z.2 c_42), if_neg (fun z => Int32.not_lt.mpr z.2 c_56), if_pos c_64]; rfl, rfl⟩)
          ·
            refine xg_iconst (v := 2) (pc := 59) dX4_typeAt_59 (by decide) ?_
            exact xg_iret (pc := 60) dX4_typeAt_60 rfl (⟨by rw [tyA, if_pos (show a < L from Nat.lt_of_not_le (fun z => c_12 (nI_le z (by omega)))), ty1, if_neg (fun z => Int32.not_lt.mpr z.2 c_42), if_pos ⟨Int32.not_lt.mp c_50, Int32.not_lt.mp c_56⟩]; rfl, rfl⟩)
      ·
        refine xg_iconst (v := 1) (pc := 45) dX4_typeAt_45 (by decide) ?_
        exact xg_iret (pc := 46) dX4_typeAt_46 rfl (⟨by rw [tyA, if_pos (show a < L from Nat.lt_of_not_le (fun z => c_12 (nI_le z (by omega)))), ty1, if_pos ⟨Int32.not_lt.mp c_36, Int32.not_lt.mp c_42⟩]; rfl, rfl⟩)
set_option maxRecDepth 100000 in
theorem lp_tokW {o1 : xO} {s : Nat} (hL2 : L ≤ 120) (hl : o1.2.2.1 = nI L) : ∀ (k tq : Nat), tq + k = L → xGo X false (d + 1) 0 0 mX4_nextToken 72 [some (.ref 51)] [] (hp lk (o1.1, o1.2.1, o1.2.2.1, o1.2.2.2.1, 1, nI s, nI tq, 0, o1.2.2.2.2.2.2.2.2.1, o1.2.2.2.2.2.2.2.2.2.1, o1.2.2.2.2.2.2.2.2.2.2) mf wf q) (fun v h' => v = [] ∧ h' = hp lk (o1.1, o1.2.1, o1.2.2.1, o1.2.2.2.1, 1, nI s, nI (scn o1.2.2.2.1 1 k tq), 0, o1.2.2.2.2.2.2.2.2.1, o1.2.2.2.2.2.2.2.2.2.1, o1.2.2.2.2.2.2.2.2.2.2) mf wf q) := by
  intro k
  induction k with
  | zero =>
    intro tq ht
    have etq : L = tq := by omega
    subst etq
    refine xg_aload_n (pc := 72) dX4_nextToken_72 rfl ?_
    refine xg_get (pc := 73) dX4_nextToken_73 flX4_15 hp_51 rfl ?_
    refine xg_eq rfl ?_
    refine xg_aload_n (pc := 76) dX4_nextToken_76 rfl ?_
    refine xg_get (pc := 77) dX4_nextToken_77 flX4_9 hp_51 rfl ?_
    refine xg_get (pc := 80) dX4_nextToken_80 flX4_126 hp_49 rfl ?_
    refine xg_eq hl ?_
    refine xg_icmp_ge (pc := 83) (tgt := 208) dX4_nextToken_83 (by decide) (fun c_83 => ?_) (fun c_83 => absurd c_83 (fun q => q (nI_le (by omega) (by omega))))
    exact xg_ret (pc := 208) dX4_nextToken_208 rfl (⟨rfl, rfl⟩)
  | succ k ih =>
    intro tq ht
    refine xg_aload_n (pc := 72) dX4_nextToken_72 rfl ?_
    refine xg_get (pc := 73) dX4_nextToken_73 flX4_15 hp_51 rfl ?_
    refine xg_eq rfl ?_
    refine xg_aload_n (pc := 76) dX4_nextToken_76 rfl ?_
    refine xg_get (pc := 77) dX4_nextToken_77 flX4_9 hp_51 rfl ?_
    refine xg_get (pc := 80) dX4_nextToken_80 flX4_126 hp_49 rfl ?_
    refine xg_eq hl ?_
    refine xg_icmp_ge (pc := 83) (tgt := 208) dX4_nextToken_83 (by decide) (fun c_83 => absurd c_83 (nI_ge (by omega) (by omega))) (fun c_83 => ?_)
    refine xg_aload_n (pc := 86) dX4_nextToken_86 rfl ?_
    refine xg_aload_n (pc := 87) dX4_nextToken_87 rfl ?_
    refine xg_get (pc := 88) dX4_nextToken_88 flX4_15 hp_51 rfl ?_
    refine xg_eq rfl ?_
    refine xg_cvI (pc := 91) (h1 := hp lk (o1.1, o1.2.1, o1.2.2.1, o1.2.2.2.1, 1, nI s, nI tq, 0, o1.2.2.2.2.2.2.2.2.1, o1.2.2.2.2.2.2.2.2.2.1, o1.2.2.2.2.2.2.2.2.2.2) mf wf q) (x := nI (tyA o1.2.2.2.1 L tq)) (M' := mX4_typeAt) dX4_nextToken_91 lkX4_128 mcX4_typeAt hp_51 rfl (ev_X4_typeAt (L := L) (a := tq) hl hL2 (by omega)) rfl rfl (Nat.le_of_ble_eq_true rfl) ?_
    refine xg_iconst (v := 1) (pc := 94) dX4_nextToken_94 (by decide) ?_
    refine xg_icmp_ne (pc := 95) (tgt := 208) dX4_nextToken_95 (by decide) (fun c_95 => ?_) (fun c_95 => ?_)
    ·
      have htb : ¬ ty1 (o1.2.2.2.1 tq) = 1 := fun z => c_95 (by rw [show tyA o1.2.2.2.1 L tq = ty1 (o1.2.2.2.1 tq) from if_pos (by omega), z]; rfl)
      exact xg_ret (pc := 208) dX4_nextToken_208 rfl (⟨rfl, by rw [scn, if_neg htb]⟩)
    ·
      have htb : ty1 (o1.2.2.2.1 tq) = 1 := by rw [show tyA o1.2.2.2.1 L tq = ty1 (o1.2.2.2.1 tq) from if_pos (by omega), show (1 : Int32) = nI 1 from rfl, nI_eq (by have := ty1_le (o1.2.2.2.1 tq); omega) (by omega)] at c_95; exact c_95
      refine xg_aload_n (pc := 98) dX4_nextToken_98 rfl ?_
      refine xg_dup (pc := 99) dX4_nextToken_99 rfl ?_
      refine xg_get (pc := 100) dX4_nextToken_100 flX4_15 hp_51 rfl ?_
      refine xg_eq rfl ?_
      refine xg_iconst (v := 1) (pc := 103) dX4_nextToken_103 (by decide) ?_
      refine xg_iadd (pc := 104) dX4_nextToken_104 ?_
      refine xg_eq (nI_1 _) ?_
      refine xg_puti (pc := 105) (h' := hp lk (o1.1, o1.2.1, o1.2.2.1, o1.2.2.2.1, 1, nI s, nI (tq + 1), 0, o1.2.2.2.2.2.2.2.2.1, o1.2.2.2.2.2.2.2.2.2.1, o1.2.2.2.2.2.2.2.2.2.2) mf wf q) dX4_nextToken_105 flX4_15 hp_51 (Nat.le_of_ble_eq_true rfl) hs_re ?_
      refine xg_goto (pc := 108) (tgt := 72) dX4_nextToken_108 (by decide) ?_
      rw [show scn o1.2.2.2.1 1 (k + 1) tq = scn o1.2.2.2.1 1 k (tq + 1) from if_pos htb]
      exact ih (tq + 1) (by omega)
theorem add_sub_a (x y c : Int32) : x + y - c = x + (y - c) := by
  rw [Int32.sub_eq_add_neg, Int32.add_assoc, ← Int32.sub_eq_add_neg]
set_option maxRecDepth 100000 in
theorem lp_tokN {o1 : xO} {s : Nat} (hL2 : L ≤ 120) (hl : o1.2.2.1 = nI L) : ∀ (k tq : Nat), tq + k = L → ∀ (v : Nat), xGo X false (d + 1) 0 0 mX4_nextToken 119 [some (.ref 51)] [] (hp lk (o1.1, o1.2.1, o1.2.2.1, o1.2.2.2.1, 2, nI s, nI tq, nI (min v 1000), o1.2.2.2.2.2.2.2.2.1, o1.2.2.2.2.2.2.2.2.2.1, o1.2.2.2.2.2.2.2.2.2.2) mf wf q) (fun v_ h' => v_ = [] ∧ h' = hp lk (o1.1, o1.2.1, o1.2.2.1, o1.2.2.2.1, 2, nI s, nI (scn o1.2.2.2.1 2 k tq), nI (min (vl o1.2.2.2.1 k tq v) 1000), o1.2.2.2.2.2.2.2.2.1, o1.2.2.2.2.2.2.2.2.2.1, o1.2.2.2.2.2.2.2.2.2.2) mf wf q) := by
  intro k
  induction k with
  | zero =>
    intro tq ht v
    have etq : L = tq := by omega
    subst etq
    refine xg_aload_n (pc := 119) dX4_nextToken_119 rfl ?_
    refine xg_get (pc := 120) dX4_nextToken_120 flX4_15 hp_51 rfl ?_
    refine xg_eq rfl ?_
    refine xg_aload_n (pc := 123) dX4_nextToken_123 rfl ?_
    refine xg_get (pc := 124) dX4_nextToken_124 flX4_9 hp_51 rfl ?_
    refine xg_get (pc := 127) dX4_nextToken_127 flX4_126 hp_49 rfl ?_
    refine xg_eq hl ?_
    refine xg_icmp_ge (pc := 130) (tgt := 208) dX4_nextToken_130 (by decide) (fun c_130 => ?_) (fun c_130 => absurd c_130 (fun q => q (nI_le (by omega) (by omega))))
    exact xg_ret (pc := 208) dX4_nextToken_208 rfl (⟨rfl, rfl⟩)
  | succ k ih =>
    intro tq ht v
    refine xg_aload_n (pc := 119) dX4_nextToken_119 rfl ?_
    refine xg_get (pc := 120) dX4_nextToken_120 flX4_15 hp_51 rfl ?_
    refine xg_eq rfl ?_
    refine xg_aload_n (pc := 123) dX4_nextToken_123 rfl ?_
    refine xg_get (pc := 124) dX4_nextToken_124 flX4_9 hp_51 rfl ?_
    refine xg_get (pc := 127) dX4_nextToken_127 flX4_126 hp_49 rfl ?_
    refine xg_eq hl ?_
    refine xg_icmp_ge (pc := 130) (tgt := 208) dX4_nextToken_130 (by decide) (fun c_130 => absurd c_130 (nI_ge (by omega) (by omega))) (fun c_130 => ?_)
    refine xg_aload_n (pc := 133) dX4_nextToken_133 rfl ?_
    refine xg_aload_n (pc := 134) dX4_nextToken_134 rfl ?_
    refine xg_get (pc := 135) dX4_nextToken_135 flX4_15 hp_51 rfl ?_
    refine xg_eq rfl ?_
    refine xg_cvI (pc := 138) (h1 := hp lk (o1.1, o1.2.1, o1.2.2.1, o1.2.2.2.1, 2, nI s, nI tq, nI (min v 1000), o1.2.2.2.2.2.2.2.2.1, o1.2.2.2.2.2.2.2.2.2.1, o1.2.2.2.2.2.2.2.2.2.2) mf wf q) (x := nI (tyA o1.2.2.2.1 L tq)) (M' := mX4_typeAt) dX4_nextToken_138 lkX4_128 mcX4_typeAt hp_51 rfl (ev_X4_typeAt (L := L) (a := tq) hl hL2 (by omega)) rfl rfl (Nat.le_of_ble_eq_true rfl) ?_
    refine xg_iconst (v := 2) (pc := 141) dX4_nextToken_141 (by decide) ?_
    refine xg_icmp_ne (pc := 142) (tgt := 208) dX4_nextToken_142 (by decide) (fun c_142 => ?_) (fun c_142 => ?_)
    ·
      have htb : ¬ ty1 (o1.2.2.2.1 tq) = 2 := fun z => c_142 (by rw [show tyA o1.2.2.2.1 L tq = ty1 (o1.2.2.2.1 tq) from if_pos (by omega), z]; rfl)
      exact xg_ret (pc := 208) dX4_nextToken_208 rfl (⟨rfl, by rw [scn, if_neg htb, vl, if_neg htb]⟩)
    ·
      have htb : ty1 (o1.2.2.2.1 tq) = 2 := by rw [show tyA o1.2.2.2.1 L tq = ty1 (o1.2.2.2.1 tq) from if_pos (by omega), show (2 : Int32) = nI 2 from rfl, nI_eq (by have := ty1_le (o1.2.2.2.1 tq); omega) (by omega)] at c_142; exact c_142
      refine xg_aload_n (pc := 145) dX4_nextToken_145 rfl ?_
      refine xg_bipush (v := 10) (pc := 146) dX4_nextToken_146 (by decide) ?_
      refine xg_aload_n (pc := 148) dX4_nextToken_148 rfl ?_
      refine xg_get (pc := 149) dX4_nextToken_149 flX4_96 hp_51 rfl ?_
      refine xg_eq rfl ?_
      refine xg_imul (pc := 152) dX4_nextToken_152 ?_
      refine xg_eq (pk_mul 10 _) ?_
      refine xg_aload_n (pc := 153) dX4_nextToken_153 rfl ?_
      refine xg_get (pc := 154) dX4_nextToken_154 flX4_9 hp_51 rfl ?_
      refine xg_get (pc := 157) dX4_nextToken_157 flX4_116 hp_49 rfl ?_
      refine xg_aload_n (pc := 160) dX4_nextToken_160 rfl ?_
      refine xg_get (pc := 161) dX4_nextToken_161 flX4_15 hp_51 rfl ?_
      refine xg_eq rfl ?_
      refine xg_iald (pc := 164) tq dX4_nextToken_164 hp_50 rfl (by omega) (by decide) ?_
      refine xg_iadd (pc := 165) dX4_nextToken_165 ?_
      refine xg_bipush (v := 48) (pc := 166) dX4_nextToken_166 (by decide) ?_
      refine xg_isub (pc := 168) dX4_nextToken_168 ?_
      refine xg_eq (by rw [add_sub_a, (dg_le htb).1, nI_add]) ?_
      refine xg_sipush (v := 1000) (pc := 169) dX4_nextToken_169 (by decide) ?_
      refine xg_mmin (pc := 172) dX4_nextToken_172 lkX4_132 mm_min (Nat.le_of_ble_eq_true rfl) ?_
      refine xg_eq (mn_v (dg_le htb).2) ?_
      refine xg_puti (pc := 175) (h' := hp lk (o1.1, o1.2.1, o1.2.2.1, o1.2.2.2.1, 2, nI s, nI tq, nI (min (if 999 < v then v else 10 * v + dg (o1.2.2.2.1 tq)) 1000), o1.2.2.2.2.2.2.2.2.1, o1.2.2.2.2.2.2.2.2.2.1, o1.2.2.2.2.2.2.2.2.2.2) mf wf q) dX4_nextToken_175 flX4_96 hp_51 (Nat.le_of_ble_eq_true rfl) hs_rv ?_
      refine xg_aload_n (pc := 178) dX4_nextToken_178 rfl ?_
      refine xg_dup (pc := 179) dX4_nextToken_179 rfl ?_
      refine xg_get (pc := 180) dX4_nextToken_180 flX4_15 hp_51 rfl ?_
      refine xg_eq rfl ?_
      refine xg_iconst (v := 1) (pc := 183) dX4_nextToken_183 (by decide) ?_
      refine xg_iadd (pc := 184) dX4_nextToken_184 ?_
      refine xg_eq (nI_1 _) ?_
      refine xg_puti (pc := 185) (h' := hp lk (o1.1, o1.2.1, o1.2.2.1, o1.2.2.2.1, 2, nI s, nI (tq + 1), nI (min (if 999 < v then v else 10 * v + dg (o1.2.2.2.1 tq)) 1000), o1.2.2.2.2.2.2.2.2.1, o1.2.2.2.2.2.2.2.2.2.1, o1.2.2.2.2.2.2.2.2.2.2) mf wf q) dX4_nextToken_185 flX4_15 hp_51 (Nat.le_of_ble_eq_true rfl) hs_re ?_
      refine xg_goto (pc := 188) (tgt := 119) dX4_nextToken_188 (by decide) ?_
      rw [show scn o1.2.2.2.1 2 (k + 1) tq = scn o1.2.2.2.1 2 k (tq + 1) from if_pos htb, show vl o1.2.2.2.1 (k + 1) tq v = vl o1.2.2.2.1 k (tq + 1) (if 999 < v then v else 10 * v + dg (o1.2.2.2.1 tq)) from if_pos htb]
      exact ih (tq + 1) (by omega) _
set_option maxRecDepth 100000 in
theorem go_tokS {o1 : xO} {s : Nat} (hL2 : L ≤ 120) (hl : o1.2.2.1 = nI L) (hs : s ≤ L) (he : o1.2.2.2.2.2.2.1 = nI s) (h4 : s < L → ¬ ty1 (o1.2.2.2.1 s) = 4) : xGo X false (d + 1) 0 0 mX4_nextToken 39 [some (.ref 51)] [] (hp lk o1 mf wf q) (fun v h' => v = [] ∧ h' = hp lk (oK o1 (tkS o1.2.2.2.1 L s)) mf wf q) := by
  rcases tyA_5 h4 with hty | hty | hty | hty | hty
  ·
    refine xg_aload_n (pc := 39) dX4_nextToken_39 rfl ?_
    refine xg_aload_n (pc := 40) dX4_nextToken_40 rfl ?_
    refine xg_get (pc := 41) dX4_nextToken_41 flX4_15 hp_51 rfl ?_
    refine xg_eq he ?_
    refine xg_puti (pc := 44) (h' := hp lk (o1.1, o1.2.1, o1.2.2.1, o1.2.2.2.1, o1.2.2.2.2.1, nI s, o1.2.2.2.2.2.2.1, o1.2.2.2.2.2.2.2.1, o1.2.2.2.2.2.2.2.2.1, o1.2.2.2.2.2.2.2.2.2.1, o1.2.2.2.2.2.2.2.2.2.2) mf wf q) dX4_nextToken_44 flX4_26 hp_51 (Nat.le_of_ble_eq_true rfl) hs_rp ?_
    refine xg_aload_n (pc := 47) dX4_nextToken_47 rfl ?_
    refine xg_aload_n (pc := 48) dX4_nextToken_48 rfl ?_
    refine xg_aload_n (pc := 49) dX4_nextToken_49 rfl ?_
    refine xg_get (pc := 50) dX4_nextToken_50 flX4_26 hp_51 rfl ?_
    refine xg_eq rfl ?_
    refine xg_cvI (pc := 53) (h1 := hp lk (o1.1, o1.2.1, o1.2.2.1, o1.2.2.2.1, o1.2.2.2.2.1, nI s, o1.2.2.2.2.2.2.1, o1.2.2.2.2.2.2.2.1, o1.2.2.2.2.2.2.2.2.1, o1.2.2.2.2.2.2.2.2.2.1, o1.2.2.2.2.2.2.2.2.2.2) mf wf q) (x := nI (tyA o1.2.2.2.1 L s)) (M' := mX4_typeAt) dX4_nextToken_53 lkX4_128 mcX4_typeAt hp_51 rfl (ev_X4_typeAt (L := L) (a := s) hl hL2 (by omega)) rfl rfl (Nat.le_of_ble_eq_true rfl) ?_
    refine xg_eq (show nI (tyA o1.2.2.2.1 L s) = 0 from by rw [hty]; rfl) ?_
    refine xg_puti (pc := 56) (h' := hp lk (o1.1, o1.2.1, o1.2.2.1, o1.2.2.2.1, 0, nI s, o1.2.2.2.2.2.2.1, o1.2.2.2.2.2.2.2.1, o1.2.2.2.2.2.2.2.2.1, o1.2.2.2.2.2.2.2.2.2.1, o1.2.2.2.2.2.2.2.2.2.2) mf wf q) dX4_nextToken_56 flX4_29 hp_51 (Nat.le_of_ble_eq_true rfl) hs_ry ?_
    refine xg_aload_n (pc := 59) dX4_nextToken_59 rfl ?_
    refine xg_iconst (v := 0) (pc := 60) dX4_nextToken_60 (by decide) ?_
    refine xg_eq (show _ = (0 : Int32) from rfl) ?_
    refine xg_puti (pc := 61) (h' := hp lk (o1.1, o1.2.1, o1.2.2.1, o1.2.2.2.1, 0, nI s, o1.2.2.2.2.2.2.1, 0, o1.2.2.2.2.2.2.2.2.1, o1.2.2.2.2.2.2.2.2.2.1, o1.2.2.2.2.2.2.2.2.2.2) mf wf q) dX4_nextToken_61 flX4_96 hp_51 (Nat.le_of_ble_eq_true rfl) hs_rv ?_
    refine xg_aload_n (pc := 64) dX4_nextToken_64 rfl ?_
    refine xg_get (pc := 65) dX4_nextToken_65 flX4_29 hp_51 rfl ?_
    refine xg_eq (show _ = (0 : Int32) from rfl) ?_
    refine xg_iconst (v := 1) (pc := 68) dX4_nextToken_68 (by decide) ?_
    refine xg_eq (show _ = (1 : Int32) from rfl) ?_
    refine xg_icmp_ne (pc := 69) (tgt := 111) dX4_nextToken_69 (by decide) (fun c_69 => ?_) (fun c_69 => absurd c_69 (by decide))
    refine xg_aload_n (pc := 111) dX4_nextToken_111 rfl ?_
    refine xg_get (pc := 112) dX4_nextToken_112 flX4_29 hp_51 rfl ?_
    refine xg_eq (show _ = (0 : Int32) from rfl) ?_
    refine xg_iconst (v := 2) (pc := 115) dX4_nextToken_115 (by decide) ?_
    refine xg_eq (show _ = (2 : Int32) from rfl) ?_
    refine xg_icmp_ne (pc := 116) (tgt := 191) dX4_nextToken_116 (by decide) (fun c_116 => ?_) (fun c_116 => absurd c_116 (by decide))
    refine xg_aload_n (pc := 191) dX4_nextToken_191 rfl ?_
    refine xg_get (pc := 192) dX4_nextToken_192 flX4_29 hp_51 rfl ?_
    refine xg_eq (show _ = (0 : Int32) from rfl) ?_
    refine xg_if_eq (pc := 195) (tgt := 208) dX4_nextToken_195 (by decide) (fun c_195 => ?_) (fun c_195 => absurd c_195 (by decide))
    exact xg_ret (pc := 208) dX4_nextToken_208 rfl (⟨rfl, by unfold oK tkS; rw [hty]; (try rw [he]); rfl⟩)
  ·
    refine xg_aload_n (pc := 39) dX4_nextToken_39 rfl ?_
    refine xg_aload_n (pc := 40) dX4_nextToken_40 rfl ?_
    refine xg_get (pc := 41) dX4_nextToken_41 flX4_15 hp_51 rfl ?_
    refine xg_eq he ?_
    refine xg_puti (pc := 44) (h' := hp lk (o1.1, o1.2.1, o1.2.2.1, o1.2.2.2.1, o1.2.2.2.2.1, nI s, o1.2.2.2.2.2.2.1, o1.2.2.2.2.2.2.2.1, o1.2.2.2.2.2.2.2.2.1, o1.2.2.2.2.2.2.2.2.2.1, o1.2.2.2.2.2.2.2.2.2.2) mf wf q) dX4_nextToken_44 flX4_26 hp_51 (Nat.le_of_ble_eq_true rfl) hs_rp ?_
    refine xg_aload_n (pc := 47) dX4_nextToken_47 rfl ?_
    refine xg_aload_n (pc := 48) dX4_nextToken_48 rfl ?_
    refine xg_aload_n (pc := 49) dX4_nextToken_49 rfl ?_
    refine xg_get (pc := 50) dX4_nextToken_50 flX4_26 hp_51 rfl ?_
    refine xg_eq rfl ?_
    refine xg_cvI (pc := 53) (h1 := hp lk (o1.1, o1.2.1, o1.2.2.1, o1.2.2.2.1, o1.2.2.2.2.1, nI s, o1.2.2.2.2.2.2.1, o1.2.2.2.2.2.2.2.1, o1.2.2.2.2.2.2.2.2.1, o1.2.2.2.2.2.2.2.2.2.1, o1.2.2.2.2.2.2.2.2.2.2) mf wf q) (x := nI (tyA o1.2.2.2.1 L s)) (M' := mX4_typeAt) dX4_nextToken_53 lkX4_128 mcX4_typeAt hp_51 rfl (ev_X4_typeAt (L := L) (a := s) hl hL2 (by omega)) rfl rfl (Nat.le_of_ble_eq_true rfl) ?_
    refine xg_eq (show nI (tyA o1.2.2.2.1 L s) = 1 from by rw [hty]; rfl) ?_
    refine xg_puti (pc := 56) (h' := hp lk (o1.1, o1.2.1, o1.2.2.1, o1.2.2.2.1, 1, nI s, o1.2.2.2.2.2.2.1, o1.2.2.2.2.2.2.2.1, o1.2.2.2.2.2.2.2.2.1, o1.2.2.2.2.2.2.2.2.2.1, o1.2.2.2.2.2.2.2.2.2.2) mf wf q) dX4_nextToken_56 flX4_29 hp_51 (Nat.le_of_ble_eq_true rfl) hs_ry ?_
    refine xg_aload_n (pc := 59) dX4_nextToken_59 rfl ?_
    refine xg_iconst (v := 0) (pc := 60) dX4_nextToken_60 (by decide) ?_
    refine xg_eq (show _ = (0 : Int32) from rfl) ?_
    refine xg_puti (pc := 61) (h' := hp lk (o1.1, o1.2.1, o1.2.2.1, o1.2.2.2.1, 1, nI s, o1.2.2.2.2.2.2.1, 0, o1.2.2.2.2.2.2.2.2.1, o1.2.2.2.2.2.2.2.2.2.1, o1.2.2.2.2.2.2.2.2.2.2) mf wf q) dX4_nextToken_61 flX4_96 hp_51 (Nat.le_of_ble_eq_true rfl) hs_rv ?_
    refine xg_aload_n (pc := 64) dX4_nextToken_64 rfl ?_
    refine xg_get (pc := 65) dX4_nextToken_65 flX4_29 hp_51 rfl ?_
    refine xg_eq (show _ = (1 : Int32) from rfl) ?_
    refine xg_iconst (v := 1) (pc := 68) dX4_nextToken_68 (by decide) ?_
    refine xg_eq (show _ = (1 : Int32) from rfl) ?_
    refine xg_icmp_ne (pc := 69) (tgt := 111) dX4_nextToken_69 (by decide) (fun c_69 => absurd c_69 (by decide)) (fun c_69 => ?_)
    rw [he]
    refine xg_mono (fun v h' q => ?_) (lp_tokW (s := s) hL2 hl (L - s) s (by omega))
    rw [q.1, q.2]
    exact ⟨rfl, by unfold oK tkS; rw [hty]; rfl⟩
  ·
    refine xg_aload_n (pc := 39) dX4_nextToken_39 rfl ?_
    refine xg_aload_n (pc := 40) dX4_nextToken_40 rfl ?_
    refine xg_get (pc := 41) dX4_nextToken_41 flX4_15 hp_51 rfl ?_
    refine xg_eq he ?_
    refine xg_puti (pc := 44) (h' := hp lk (o1.1, o1.2.1, o1.2.2.1, o1.2.2.2.1, o1.2.2.2.2.1, nI s, o1.2.2.2.2.2.2.1, o1.2.2.2.2.2.2.2.1, o1.2.2.2.2.2.2.2.2.1, o1.2.2.2.2.2.2.2.2.2.1, o1.2.2.2.2.2.2.2.2.2.2) mf wf q) dX4_nextToken_44 flX4_26 hp_51 (Nat.le_of_ble_eq_true rfl) hs_rp ?_
    refine xg_aload_n (pc := 47) dX4_nextToken_47 rfl ?_
    refine xg_aload_n (pc := 48) dX4_nextToken_48 rfl ?_
    refine xg_aload_n (pc := 49) dX4_nextToken_49 rfl ?_
    refine xg_get (pc := 50) dX4_nextToken_50 flX4_26 hp_51 rfl ?_
    refine xg_eq rfl ?_
    refine xg_cvI (pc := 53) (h1 := hp lk (o1.1, o1.2.1, o1.2.2.1, o1.2.2.2.1, o1.2.2.2.2.1, nI s, o1.2.2.2.2.2.2.1, o1.2.2.2.2.2.2.2.1, o1.2.2.2.2.2.2.2.2.1, o1.2.2.2.2.2.2.2.2.2.1, o1.2.2.2.2.2.2.2.2.2.2) mf wf q) (x := nI (tyA o1.2.2.2.1 L s)) (M' := mX4_typeAt) dX4_nextToken_53 lkX4_128 mcX4_typeAt hp_51 rfl (ev_X4_typeAt (L := L) (a := s) hl hL2 (by omega)) rfl rfl (Nat.le_of_ble_eq_true rfl) ?_
    refine xg_eq (show nI (tyA o1.2.2.2.1 L s) = 2 from by rw [hty]; rfl) ?_
    refine xg_puti (pc := 56) (h' := hp lk (o1.1, o1.2.1, o1.2.2.1, o1.2.2.2.1, 2, nI s, o1.2.2.2.2.2.2.1, o1.2.2.2.2.2.2.2.1, o1.2.2.2.2.2.2.2.2.1, o1.2.2.2.2.2.2.2.2.2.1, o1.2.2.2.2.2.2.2.2.2.2) mf wf q) dX4_nextToken_56 flX4_29 hp_51 (Nat.le_of_ble_eq_true rfl) hs_ry ?_
    refine xg_aload_n (pc := 59) dX4_nextToken_59 rfl ?_
    refine xg_iconst (v := 0) (pc := 60) dX4_nextToken_60 (by decide) ?_
    refine xg_eq (show _ = (0 : Int32) from rfl) ?_
    refine xg_puti (pc := 61) (h' := hp lk (o1.1, o1.2.1, o1.2.2.1, o1.2.2.2.1, 2, nI s, o1.2.2.2.2.2.2.1, 0, o1.2.2.2.2.2.2.2.2.1, o1.2.2.2.2.2.2.2.2.2.1, o1.2.2.2.2.2.2.2.2.2.2) mf wf q) dX4_nextToken_61 flX4_96 hp_51 (Nat.le_of_ble_eq_true rfl) hs_rv ?_
    refine xg_aload_n (pc := 64) dX4_nextToken_64 rfl ?_
    refine xg_get (pc := 65) dX4_nextToken_65 flX4_29 hp_51 rfl ?_
    refine xg_eq (show _ = (2 : Int32) from rfl) ?_
    refine xg_iconst (v := 1) (pc := 68) dX4_nextToken_68 (by decide) ?_
    refine xg_eq (show _ = (1 : Int32) from rfl) ?_
    refine xg_icmp_ne (pc := 69) (tgt := 111) dX4_nextToken_69 (by decide) (fun c_69 => ?_) (fun c_69 => absurd c_69 (by decide))
    refine xg_aload_n (pc := 111) dX4_nextToken_111 rfl ?_
    refine xg_get (pc := 112) dX4_nextToken_112 flX4_29 hp_51 rfl ?_
    refine xg_eq (show _ = (2 : Int32) from rfl) ?_
    refine xg_iconst (v := 2) (pc := 115) dX4_nextToken_115 (by decide) ?_
    refine xg_eq (show _ = (2 : Int32) from rfl) ?_
    refine xg_icmp_ne (pc := 116) (tgt := 191) dX4_nextToken_116 (by decide) (fun c_116 => absurd c_116 (by decide)) (fun c_116 => ?_)
    rw [he]
    refine xg_mono (fun v h' q => ?_) (lp_tokN (s := s) hL2 hl (L - s) s (by omega) 0)
    rw [q.1, q.2]
    exact ⟨rfl, by unfold oK tkS; rw [hty]; rfl⟩
  ·
    refine xg_aload_n (pc := 39) dX4_nextToken_39 rfl ?_
    refine xg_aload_n (pc := 40) dX4_nextToken_40 rfl ?_
    refine xg_get (pc := 41) dX4_nextToken_41 flX4_15 hp_51 rfl ?_
    refine xg_eq he ?_
    refine xg_puti (pc := 44) (h' := hp lk (o1.1, o1.2.1, o1.2.2.1, o1.2.2.2.1, o1.2.2.2.2.1, nI s, o1.2.2.2.2.2.2.1, o1.2.2.2.2.2.2.2.1, o1.2.2.2.2.2.2.2.2.1, o1.2.2.2.2.2.2.2.2.2.1, o1.2.2.2.2.2.2.2.2.2.2) mf wf q) dX4_nextToken_44 flX4_26 hp_51 (Nat.le_of_ble_eq_true rfl) hs_rp ?_
    refine xg_aload_n (pc := 47) dX4_nextToken_47 rfl ?_
    refine xg_aload_n (pc := 48) dX4_nextToken_48 rfl ?_
    refine xg_aload_n (pc := 49) dX4_nextToken_49 rfl ?_
    refine xg_get (pc := 50) dX4_nextToken_50 flX4_26 hp_51 rfl ?_
    refine xg_eq rfl ?_
    refine xg_cvI (pc := 53) (h1 := hp lk (o1.1, o1.2.1, o1.2.2.1, o1.2.2.2.1, o1.2.2.2.2.1, nI s, o1.2.2.2.2.2.2.1, o1.2.2.2.2.2.2.2.1, o1.2.2.2.2.2.2.2.2.1, o1.2.2.2.2.2.2.2.2.2.1, o1.2.2.2.2.2.2.2.2.2.2) mf wf q) (x := nI (tyA o1.2.2.2.1 L s)) (M' := mX4_typeAt) dX4_nextToken_53 lkX4_128 mcX4_typeAt hp_51 rfl (ev_X4_typeAt (L := L) (a := s) hl hL2 (by omega)) rfl rfl (Nat.le_of_ble_eq_true rfl) ?_
    refine xg_eq (show nI (tyA o1.2.2.2.1 L s) = 3 from by rw [hty]; rfl) ?_
    refine xg_puti (pc := 56) (h' := hp lk (o1.1, o1.2.1, o1.2.2.1, o1.2.2.2.1, 3, nI s, o1.2.2.2.2.2.2.1, o1.2.2.2.2.2.2.2.1, o1.2.2.2.2.2.2.2.2.1, o1.2.2.2.2.2.2.2.2.2.1, o1.2.2.2.2.2.2.2.2.2.2) mf wf q) dX4_nextToken_56 flX4_29 hp_51 (Nat.le_of_ble_eq_true rfl) hs_ry ?_
    refine xg_aload_n (pc := 59) dX4_nextToken_59 rfl ?_
    refine xg_iconst (v := 0) (pc := 60) dX4_nextToken_60 (by decide) ?_
    refine xg_eq (show _ = (0 : Int32) from rfl) ?_
    refine xg_puti (pc := 61) (h' := hp lk (o1.1, o1.2.1, o1.2.2.1, o1.2.2.2.1, 3, nI s, o1.2.2.2.2.2.2.1, 0, o1.2.2.2.2.2.2.2.2.1, o1.2.2.2.2.2.2.2.2.2.1, o1.2.2.2.2.2.2.2.2.2.2) mf wf q) dX4_nextToken_61 flX4_96 hp_51 (Nat.le_of_ble_eq_true rfl) hs_rv ?_
    refine xg_aload_n (pc := 64) dX4_nextToken_64 rfl ?_
    refine xg_get (pc := 65) dX4_nextToken_65 flX4_29 hp_51 rfl ?_
    refine xg_eq (show _ = (3 : Int32) from rfl) ?_
    refine xg_iconst (v := 1) (pc := 68) dX4_nextToken_68 (by decide) ?_
    refine xg_eq (show _ = (1 : Int32) from rfl) ?_
    refine xg_icmp_ne (pc := 69) (tgt := 111) dX4_nextToken_69 (by decide) (fun c_69 => ?_) (fun c_69 => absurd c_69 (by decide))
    refine xg_aload_n (pc := 111) dX4_nextToken_111 rfl ?_
    refine xg_get (pc := 112) dX4_nextToken_112 flX4_29 hp_51 rfl ?_
    refine xg_eq (show _ = (3 : Int32) from rfl) ?_
    refine xg_iconst (v := 2) (pc := 115) dX4_nextToken_115 (by decide) ?_
    refine xg_eq (show _ = (2 : Int32) from rfl) ?_
    refine xg_icmp_ne (pc := 116) (tgt := 191) dX4_nextToken_116 (by decide) (fun c_116 => ?_) (fun c_116 => absurd c_116 (by decide))
    refine xg_aload_n (pc := 191) dX4_nextToken_191 rfl ?_
    refine xg_get (pc := 192) dX4_nextToken_192 flX4_29 hp_51 rfl ?_
    refine xg_eq (show _ = (3 : Int32) from rfl) ?_
    refine xg_if_eq (pc := 195) (tgt := 208) dX4_nextToken_195 (by decide) (fun c_195 => absurd c_195 (by decide)) (fun c_195 => ?_)
    refine xg_aload_n (pc := 198) dX4_nextToken_198 rfl ?_
    refine xg_dup (pc := 199) dX4_nextToken_199 rfl ?_
    refine xg_get (pc := 200) dX4_nextToken_200 flX4_15 hp_51 rfl ?_
    refine xg_eq he ?_
    refine xg_iconst (v := 1) (pc := 203) dX4_nextToken_203 (by decide) ?_
    refine xg_eq (show _ = (1 : Int32) from rfl) ?_
    refine xg_iadd (pc := 204) dX4_nextToken_204 ?_
    refine xg_eq (nI_1 _) ?_
    refine xg_puti (pc := 205) (h' := hp lk (o1.1, o1.2.1, o1.2.2.1, o1.2.2.2.1, 3, nI s, nI (s + 1), 0, o1.2.2.2.2.2.2.2.2.1, o1.2.2.2.2.2.2.2.2.2.1, o1.2.2.2.2.2.2.2.2.2.2) mf wf q) dX4_nextToken_205 flX4_15 hp_51 (Nat.le_of_ble_eq_true rfl) hs_re ?_
    exact xg_ret (pc := 208) dX4_nextToken_208 rfl (⟨rfl, by unfold oK tkS; rw [hty]; (try rw [he]); rfl⟩)
  ·
    refine xg_aload_n (pc := 39) dX4_nextToken_39 rfl ?_
    refine xg_aload_n (pc := 40) dX4_nextToken_40 rfl ?_
    refine xg_get (pc := 41) dX4_nextToken_41 flX4_15 hp_51 rfl ?_
    refine xg_eq he ?_
    refine xg_puti (pc := 44) (h' := hp lk (o1.1, o1.2.1, o1.2.2.1, o1.2.2.2.1, o1.2.2.2.2.1, nI s, o1.2.2.2.2.2.2.1, o1.2.2.2.2.2.2.2.1, o1.2.2.2.2.2.2.2.2.1, o1.2.2.2.2.2.2.2.2.2.1, o1.2.2.2.2.2.2.2.2.2.2) mf wf q) dX4_nextToken_44 flX4_26 hp_51 (Nat.le_of_ble_eq_true rfl) hs_rp ?_
    refine xg_aload_n (pc := 47) dX4_nextToken_47 rfl ?_
    refine xg_aload_n (pc := 48) dX4_nextToken_48 rfl ?_
    refine xg_aload_n (pc := 49) dX4_nextToken_49 rfl ?_
    refine xg_get (pc := 50) dX4_nextToken_50 flX4_26 hp_51 rfl ?_
    refine xg_eq rfl ?_
    refine xg_cvI (pc := 53) (h1 := hp lk (o1.1, o1.2.1, o1.2.2.1, o1.2.2.2.1, o1.2.2.2.2.1, nI s, o1.2.2.2.2.2.2.1, o1.2.2.2.2.2.2.2.1, o1.2.2.2.2.2.2.2.2.1, o1.2.2.2.2.2.2.2.2.2.1, o1.2.2.2.2.2.2.2.2.2.2) mf wf q) (x := nI (tyA o1.2.2.2.1 L s)) (M' := mX4_typeAt) dX4_nextToken_53 lkX4_128 mcX4_typeAt hp_51 rfl (ev_X4_typeAt (L := L) (a := s) hl hL2 (by omega)) rfl rfl (Nat.le_of_ble_eq_true rfl) ?_
    refine xg_eq (show nI (tyA o1.2.2.2.1 L s) = 5 from by rw [hty]; rfl) ?_
    refine xg_puti (pc := 56) (h' := hp lk (o1.1, o1.2.1, o1.2.2.1, o1.2.2.2.1, 5, nI s, o1.2.2.2.2.2.2.1, o1.2.2.2.2.2.2.2.1, o1.2.2.2.2.2.2.2.2.1, o1.2.2.2.2.2.2.2.2.2.1, o1.2.2.2.2.2.2.2.2.2.2) mf wf q) dX4_nextToken_56 flX4_29 hp_51 (Nat.le_of_ble_eq_true rfl) hs_ry ?_
    refine xg_aload_n (pc := 59) dX4_nextToken_59 rfl ?_
    refine xg_iconst (v := 0) (pc := 60) dX4_nextToken_60 (by decide) ?_
    refine xg_eq (show _ = (0 : Int32) from rfl) ?_
    refine xg_puti (pc := 61) (h' := hp lk (o1.1, o1.2.1, o1.2.2.1, o1.2.2.2.1, 5, nI s, o1.2.2.2.2.2.2.1, 0, o1.2.2.2.2.2.2.2.2.1, o1.2.2.2.2.2.2.2.2.2.1, o1.2.2.2.2.2.2.2.2.2.2) mf wf q) dX4_nextToken_61 flX4_96 hp_51 (Nat.le_of_ble_eq_true rfl) hs_rv ?_
    refine xg_aload_n (pc := 64) dX4_nextToken_64 rfl ?_
    refine xg_get (pc := 65) dX4_nextToken_65 flX4_29 hp_51 rfl ?_
    refine xg_eq (show _ = (5 : Int32) from rfl) ?_
    refine xg_iconst (v := 1) (pc := 68) dX4_nextToken_68 (by decide) ?_
    refine xg_eq (show _ = (1 : Int32) from rfl) ?_
    refine xg_icmp_ne (pc := 69) (tgt := 111) dX4_nextToken_69 (by decide) (fun c_69 => ?_) (fun c_69 => absurd c_69 (by decide))
    refine xg_aload_n (pc := 111) dX4_nextToken_111 rfl ?_
    refine xg_get (pc := 112) dX4_nextToken_112 flX4_29 hp_51 rfl ?_
    refine xg_eq (show _ = (5 : Int32) from rfl) ?_
    refine xg_iconst (v := 2) (pc := 115) dX4_nextToken_115 (by decide) ?_
    refine xg_eq (show _ = (2 : Int32) from rfl) ?_
    refine xg_icmp_ne (pc := 116) (tgt := 191) dX4_nextToken_116 (by decide) (fun c_116 => ?_) (fun c_116 => absurd c_116 (by decide))
    refine xg_aload_n (pc := 191) dX4_nextToken_191 rfl ?_
    refine xg_get (pc := 192) dX4_nextToken_192 flX4_29 hp_51 rfl ?_
    refine xg_eq (show _ = (5 : Int32) from rfl) ?_
    refine xg_if_eq (pc := 195) (tgt := 208) dX4_nextToken_195 (by decide) (fun c_195 => absurd c_195 (by decide)) (fun c_195 => ?_)
    refine xg_aload_n (pc := 198) dX4_nextToken_198 rfl ?_
    refine xg_dup (pc := 199) dX4_nextToken_199 rfl ?_
    refine xg_get (pc := 200) dX4_nextToken_200 flX4_15 hp_51 rfl ?_
    refine xg_eq he ?_
    refine xg_iconst (v := 1) (pc := 203) dX4_nextToken_203 (by decide) ?_
    refine xg_eq (show _ = (1 : Int32) from rfl) ?_
    refine xg_iadd (pc := 204) dX4_nextToken_204 ?_
    refine xg_eq (nI_1 _) ?_
    refine xg_puti (pc := 205) (h' := hp lk (o1.1, o1.2.1, o1.2.2.1, o1.2.2.2.1, 5, nI s, nI (s + 1), 0, o1.2.2.2.2.2.2.2.2.1, o1.2.2.2.2.2.2.2.2.2.1, o1.2.2.2.2.2.2.2.2.2.2) mf wf q) dX4_nextToken_205 flX4_15 hp_51 (Nat.le_of_ble_eq_true rfl) hs_re ?_
    exact xg_ret (pc := 208) dX4_nextToken_208 rfl (⟨rfl, by unfold oK tkS; rw [hty]; (try rw [he]); rfl⟩)
set_option maxRecDepth 100000 in
theorem lp_tok  (hL2 : L ≤ 120) : ∀ (k tq : Nat), tq + k = L → ∀ (o1 : xO), o1.2.2.2.2.2.2.1 = nI tq → o1.2.2.1 = nI L → xGo X false (d + 1) 0 0 mX4_nextToken 0 [some (.ref 51)] [] (hp lk o1 mf wf q) (fun v h' => v = [] ∧ h' = hp lk (oK o1 (tok o1.2.2.2.1 L tq)) mf wf q) := by
  intro k
  induction k with
  | zero =>
    intro tq ht o1 he hl
    have etq : L = tq := by omega
    subst etq
    refine xg_aload_n (pc := 0) dX4_nextToken_0 rfl ?_
    refine xg_get (pc := 1) dX4_nextToken_1 flX4_15 hp_51 rfl ?_
    refine xg_eq he ?_
    refine xg_aload_n (pc := 4) dX4_nextToken_4 rfl ?_
    refine xg_get (pc := 5) dX4_nextToken_5 flX4_9 hp_51 rfl ?_
    refine xg_get (pc := 8) dX4_nextToken_8 flX4_126 hp_49 rfl ?_
    refine xg_eq hl ?_
    refine xg_icmp_ge (pc := 11) (tgt := 39) dX4_nextToken_11 (by decide) (fun c_11 => ?_) (fun c_11 => absurd c_11 (fun q => q (nI_le (by omega) (by omega))))
    rw [tok_no (fun z => absurd z (by omega))]
    exact go_tokS hL2 hl (by omega) he (fun z => absurd z (by omega))
  | succ k ih =>
    intro tq ht o1 he hl
    refine xg_aload_n (pc := 0) dX4_nextToken_0 rfl ?_
    refine xg_get (pc := 1) dX4_nextToken_1 flX4_15 hp_51 rfl ?_
    refine xg_eq he ?_
    refine xg_aload_n (pc := 4) dX4_nextToken_4 rfl ?_
    refine xg_get (pc := 5) dX4_nextToken_5 flX4_9 hp_51 rfl ?_
    refine xg_get (pc := 8) dX4_nextToken_8 flX4_126 hp_49 rfl ?_
    refine xg_eq hl ?_
    refine xg_icmp_ge (pc := 11) (tgt := 39) dX4_nextToken_11 (by decide) (fun c_11 => absurd c_11 (nI_ge (by omega) (by omega))) (fun c_11 => ?_)
    refine xg_aload_n (pc := 14) dX4_nextToken_14 rfl ?_
    refine xg_aload_n (pc := 15) dX4_nextToken_15 rfl ?_
    refine xg_get (pc := 16) dX4_nextToken_16 flX4_15 hp_51 rfl ?_
    refine xg_eq he ?_
    refine xg_cvI (pc := 19) (h1 := hp lk o1 mf wf q) (x := nI (tyA o1.2.2.2.1 L tq)) (M' := mX4_typeAt) dX4_nextToken_19 lkX4_128 mcX4_typeAt hp_51 rfl (ev_X4_typeAt (L := L) (a := tq) hl hL2 (by omega)) rfl rfl (Nat.le_of_ble_eq_true rfl) ?_
    refine xg_iconst (v := 4) (pc := 22) dX4_nextToken_22 (by decide) ?_
    refine xg_icmp_ne (pc := 23) (tgt := 39) dX4_nextToken_23 (by decide) (fun c_23 => ?_) (fun c_23 => ?_)
    ·
      have htb : ¬ ty1 (o1.2.2.2.1 tq) = 4 := fun z => c_23 (by rw [show tyA o1.2.2.2.1 L tq = ty1 (o1.2.2.2.1 tq) from if_pos (by omega), z]; rfl)
      rw [tok_no (fun _ => htb)]
      exact go_tokS hL2 hl (by omega) he (fun _ => htb)
    ·
      have htb : ty1 (o1.2.2.2.1 tq) = 4 := by rw [show tyA o1.2.2.2.1 L tq = ty1 (o1.2.2.2.1 tq) from if_pos (by omega), show (4 : Int32) = nI 4 from rfl, nI_eq (by have := ty1_le (o1.2.2.2.1 tq); omega) (by omega)] at c_23; exact c_23
      refine xg_aload_n (pc := 26) dX4_nextToken_26 rfl ?_
      refine xg_dup (pc := 27) dX4_nextToken_27 rfl ?_
      refine xg_get (pc := 28) dX4_nextToken_28 flX4_15 hp_51 rfl ?_
      refine xg_eq he ?_
      refine xg_iconst (v := 1) (pc := 31) dX4_nextToken_31 (by decide) ?_
      refine xg_iadd (pc := 32) dX4_nextToken_32 ?_
      refine xg_eq (nI_1 _) ?_
      refine xg_puti (pc := 33) (h' := hp lk (o1.1, o1.2.1, o1.2.2.1, o1.2.2.2.1, o1.2.2.2.2.1, o1.2.2.2.2.2.1, nI (tq + 1), o1.2.2.2.2.2.2.2.1, o1.2.2.2.2.2.2.2.2.1, o1.2.2.2.2.2.2.2.2.2.1, o1.2.2.2.2.2.2.2.2.2.2) mf wf q) dX4_nextToken_33 flX4_15 hp_51 (Nat.le_of_ble_eq_true rfl) hs_re ?_
      refine xg_goto (pc := 36) (tgt := 0) dX4_nextToken_36 (by decide) ?_
      rw [tok_sk (by omega) htb]
      exact ih (tq + 1) (by omega) _ rfl hl
theorem ev_X4_nextToken {a : Nat} (hL : o.2.2.1 = nI L) (hL2 : L ≤ 120) (ha : a ≤ L) (he : o.2.2.2.2.2.2.1 = nI a) : xDv X false (d + 1) mX4_nextToken [.ref 51] (hp lk o mf wf q) [] (hp lk (oK o (tok o.2.2.2.1 L a)) mf wf q) := by
  refine xDv.of (ls := [some (.ref 51)]) mcX4_nextToken.1.2.2.2.2 (Nat.le_of_ble_eq_true rfl) rfl ?_
  exact lp_tok hL2 (L - a) a (by omega) o he hL
theorem ev_nx (hL : o.2.2.1 = nI L) (hL2 : L ≤ 120) (okt : okT o.2.2.2.1 L t) : xDv X false (d + 1) mX4_nextToken [.ref 51] (hp lk (oK o t) mf wf q) [] (hp lk (oK o (nx o.2.2.2.1 L t)) mf wf q) :=
  ev_X4_nextToken (o := oK o t) hL hL2 okt.2.1 rfl
end
