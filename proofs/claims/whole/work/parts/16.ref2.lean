section
variable {X : xS} {d : Nat} {lk : Nat → Nat → Int32} {o : xO} {mf wf : Nat → Int32} {q : xQ}
set_option maxRecDepth 100000 in
theorem ev_X7_shineOf {t : Nat} {r : Int32} (ht : t < 8) (hr : ¬ r + 1 = 0) : xDv X false (d + 1) mX7_shineOf [.ref 62, .int (nI t), .int r] (hp lk o mf wf q) [.int (shn (mf (5 + 5 * t)) (mf (5 + 5 * t + 3)) r)] (hp lk o mf wf q) := by
  refine xDv.of (ls := [some (.ref 62), some (.int (nI t)), some (.int r), none]) mcX7_shineOf.1.2.2.2.2 (Nat.le_of_ble_eq_true rfl) rfl ?_
  refine xg_aload_n (pc := 0) dX7_shineOf_0 rfl ?_
  refine xg_iload_n (pc := 1) dX7_shineOf_1 rfl ?_
  refine xg_iconst (v := 3) (pc := 2) dX7_shineOf_2 (by decide) ?_
  refine xg_cvI (pc := 3) (h1 := hp lk o mf wf q) (x := mf (5 + 5 * t + 3)) (M' := mX7_lit) dX7_shineOf_3 lkX7_52 mcX7_lit hp_62 rfl (ev_X7_lit (t := t) (w := 3) (by omega)) rfl rfl (Nat.le_of_ble_eq_true rfl) ?_
  refine xg_iload_n (pc := 6) dX7_shineOf_6 rfl ?_
  refine xg_iconst (v := 1) (pc := 7) dX7_shineOf_7 (by decide) ?_
  refine xg_iadd (pc := 8) dX7_shineOf_8 ?_
  refine xg_idiv (pc := 9) dX7_shineOf_9 hr ?_
  refine xg_istore_n (pc := 10) (ls' := [some (.ref 62), some (.int (nI t)), some (.int r), some (.int ((mf (5 + 5 * t + 3)) / (r + 1)))]) dX7_shineOf_10 (by decide) rfl ?_
  refine xg_aload_n (pc := 11) dX7_shineOf_11 rfl ?_
  refine xg_iload_n (pc := 12) dX7_shineOf_12 rfl ?_
  refine xg_iconst (v := 0) (pc := 13) dX7_shineOf_13 (by decide) ?_
  refine xg_cvI (pc := 14) (h1 := hp lk o mf wf q) (x := mf (5 + 5 * t)) (M' := mX7_lit) dX7_shineOf_14 lkX7_52 mcX7_lit hp_62 rfl (ev_X7_lit (t := t) (w := 0) (by omega)) rfl rfl (Nat.le_of_ble_eq_true rfl) ?_
  by_cases w17_2 : (mf (5 + 5 * t)) = 2
  ·
    refine xg_tswI (pc := 17) 0 (tgt := 48) dX7_shineOf_17 (by rw [w17_2]; rfl) (by decide) rfl (by decide) ?_
    refine xg_iconst (v := 2) (pc := 48) dX7_shineOf_48 (by decide) ?_
    refine xg_iload_n (pc := 49) dX7_shineOf_49 rfl ?_
    refine xg_imul (pc := 50) dX7_shineOf_50 ?_
    exact xg_iret (pc := 51) dX7_shineOf_51 rfl (⟨by simp [shn, *], rfl⟩)
  by_cases w17_3 : (mf (5 + 5 * t)) = 3
  ·
    refine xg_tswI (pc := 17) 1 (tgt := 52) dX7_shineOf_17 (by rw [w17_3]; rfl) (by decide) rfl (by decide) ?_
    refine xg_iload_n (pc := 52) dX7_shineOf_52 rfl ?_
    refine xg_iconst (v := 2) (pc := 53) dX7_shineOf_53 (by decide) ?_
    refine xg_idiv (pc := 54) dX7_shineOf_54 (by decide) ?_
    exact xg_iret (pc := 55) dX7_shineOf_55 rfl (⟨by simp [shn, *], rfl⟩)
  by_cases w17_4 : (mf (5 + 5 * t)) = 4
  ·
    refine xg_tswI (pc := 17) 2 (tgt := 56) dX7_shineOf_17 (by rw [w17_4]; rfl) (by decide) rfl (by decide) ?_
    refine xg_iload_n (pc := 56) dX7_shineOf_56 rfl ?_
    refine xg_iload_n (pc := 57) dX7_shineOf_57 rfl ?_
    refine xg_iadd (pc := 58) dX7_shineOf_58 ?_
    exact xg_iret (pc := 59) dX7_shineOf_59 rfl (⟨by simp [shn, *], rfl⟩)
  by_cases w17_5 : (mf (5 + 5 * t)) = 5
  ·
    refine xg_tswI (pc := 17) 3 (tgt := 60) dX7_shineOf_17 (by rw [w17_5]; rfl) (by decide) rfl (by decide) ?_
    refine xg_iconst (v := 2) (pc := 60) dX7_shineOf_60 (by decide) ?_
    refine xg_iload_n (pc := 61) dX7_shineOf_61 rfl ?_
    refine xg_imul (pc := 62) dX7_shineOf_62 ?_
    refine xg_aload_n (pc := 63) dX7_shineOf_63 rfl ?_
    refine xg_iload_n (pc := 64) dX7_shineOf_64 rfl ?_
    refine xg_iconst (v := 3) (pc := 65) dX7_shineOf_65 (by decide) ?_
    refine xg_cvI (pc := 66) (h1 := hp lk o mf wf q) (x := mf (5 + 5 * t + 3)) (M' := mX7_lit) dX7_shineOf_66 lkX7_52 mcX7_lit hp_62 rfl (ev_X7_lit (t := t) (w := 3) (by omega)) rfl rfl (Nat.le_of_ble_eq_true rfl) ?_
    refine xg_if_le (pc := 69) (tgt := 76) dX7_shineOf_69 (by decide) (fun c_69 => ?_) (fun c_69 => ?_)
    ·
      refine xg_iconst (v := 0) (pc := 76) dX7_shineOf_76 (by decide) ?_
      refine xg_iadd (pc := 77) dX7_shineOf_77 ?_
      exact xg_iret (pc := 78) dX7_shineOf_78 rfl (⟨by simp [shn, *], rfl⟩)
    ·
      refine xg_iconst (v := 3) (pc := 72) dX7_shineOf_72 (by decide) ?_
      refine xg_goto (pc := 73) (tgt := 77) dX7_shineOf_73 (by decide) ?_
      refine xg_iadd (pc := 77) dX7_shineOf_77 ?_
      exact xg_iret (pc := 78) dX7_shineOf_78 rfl (⟨by simp [shn, *], rfl⟩)
  refine xg_tswO (pc := 17) (tgt := 79) dX7_shineOf_17 (by have := lv_neT (a := 2) w17_2 (by decide); have := lv_neT (a := 3) w17_3 (by decide); have := lv_neT (a := 4) w17_4 (by decide); have := lv_neT (a := 5) w17_5 (by decide); omega) (by decide) ?_
  refine xg_iload_n (pc := 79) dX7_shineOf_79 rfl ?_
  exact xg_iret (pc := 80) dX7_shineOf_80 rfl (⟨by simp [shn, *], rfl⟩)
set_option maxRecDepth 100000 in
theorem lp_X7_glintOf {c : Int32} (ok : okN mf) (hc : 0 ≤ c ∧ c ≤ 47) : ∀ (k tq : Nat), tq + k = nT mf → xGo X false (d + 3) 0 0 mX7_glintOf 4 [some (.ref 62), some (.int c), some (.int (sumI (gR mf c) tq)), some (.int (nI tq))] [] (hp lk o mf wf q) (fun v h' => v = [.int (glR mf c)] ∧ h' = hp lk o mf wf q) := by
  intro k
  induction k with
  | zero =>
    intro tq ht
    have h8 := ok.2.1
    have etq : tq = nT mf := by omega
    subst etq
    refine xg_iload_n (pc := 4) dX7_glintOf_4 rfl ?_
    refine xg_aload_n (pc := 5) dX7_glintOf_5 rfl ?_
    refine xg_get (pc := 6) dX7_glintOf_6 flX7_9 hp_62 rfl ?_
    refine xg_iconst (v := 3) (pc := 9) dX7_glintOf_9 (by decide) ?_
    refine xg_iald (pc := 10) 3 dX7_glintOf_10 hp_63 (by simp only [xlit, nI_add, pk_mul]) (by omega) (by decide) ?_
    refine xg_eq ok.1 ?_
    refine xg_icmp_ge (pc := 11) (tgt := 45) dX7_glintOf_11 (by decide) (fun c_11 => ?_) (fun c_11 => absurd c_11 (fun q => q (nI_le (by omega) (by omega))))
    refine xg_aload_n (pc := 45) dX7_glintOf_45 rfl ?_
    refine xg_get (pc := 46) dX7_glintOf_46 flX7_9 hp_62 rfl ?_
    refine xg_iconst (v := 2) (pc := 49) dX7_glintOf_49 (by decide) ?_
    refine xg_iald (pc := 50) 2 dX7_glintOf_50 hp_63 (by simp only [xlit, nI_add, pk_mul]) (by omega) (by decide) ?_
    refine xg_iconst (v := 1) (pc := 51) dX7_glintOf_51 (by decide) ?_
    refine xg_icmp_ne (pc := 52) (tgt := 59) dX7_glintOf_52 (by decide) (fun c_52 => ?_) (fun c_52 => ?_)
    ·
      refine xg_aload_n (pc := 59) dX7_glintOf_59 rfl ?_
      refine xg_iload_n (pc := 60) dX7_glintOf_60 rfl ?_
      refine xg_cvI (pc := 61) (h1 := hp lk o mf wf q) (x := if rip mf c then 1 else 0) (M' := mX7_isRippled) dX7_glintOf_61 lkX7_70 mcX7_isRippled hp_62 rfl (ev_X7_isRippled) rfl rfl (Nat.le_of_ble_eq_true rfl) ?_
      refine xg_bz (pc := 64) (tgt := 73) dX7_glintOf_64 (by decide) (fun c_64 => ?_) (fun c_64 => ?_)
      ·
        refine xg_iload_n (pc := 73) dX7_glintOf_73 rfl ?_
        exact xg_iret (pc := 74) dX7_glintOf_74 rfl (⟨by simp_all [glR], rfl⟩)
      ·
        refine xg_iload_n (pc := 67) dX7_glintOf_67 rfl ?_
        refine xg_iconst (v := 3) (pc := 68) dX7_glintOf_68 (by decide) ?_
        refine xg_idiv (pc := 69) dX7_glintOf_69 (by decide) ?_
        refine xg_goto (pc := 70) (tgt := 74) dX7_glintOf_70 (by decide) ?_
        exact xg_iret (pc := 74) dX7_glintOf_74 rfl (⟨by simp_all [glR], rfl⟩)
    ·
      refine xg_iconst (v := 0) (pc := 55) dX7_glintOf_55 (by decide) ?_
      refine xg_goto (pc := 56) (tgt := 74) dX7_glintOf_56 (by decide) ?_
      exact xg_iret (pc := 74) dX7_glintOf_74 rfl (⟨by simp_all [glR], rfl⟩)
  | succ k ih =>
    intro tq ht
    have h8 := ok.2.1
    refine xg_iload_n (pc := 4) dX7_glintOf_4 rfl ?_
    refine xg_aload_n (pc := 5) dX7_glintOf_5 rfl ?_
    refine xg_get (pc := 6) dX7_glintOf_6 flX7_9 hp_62 rfl ?_
    refine xg_iconst (v := 3) (pc := 9) dX7_glintOf_9 (by decide) ?_
    refine xg_iald (pc := 10) 3 dX7_glintOf_10 hp_63 (by simp only [xlit, nI_add, pk_mul]) (by omega) (by decide) ?_
    refine xg_eq ok.1 ?_
    refine xg_icmp_ge (pc := 11) (tgt := 45) dX7_glintOf_11 (by decide) (fun c_11 => absurd c_11 (nI_ge (by omega) (by omega))) (fun c_11 => ?_)
    refine xg_iload_n (pc := 14) dX7_glintOf_14 rfl ?_
    refine xg_aload_n (pc := 15) dX7_glintOf_15 rfl ?_
    refine xg_iload_n (pc := 16) dX7_glintOf_16 rfl ?_
    refine xg_iload_n (pc := 17) dX7_glintOf_17 rfl ?_
    refine xg_cvI (pc := 18) (h1 := hp lk o mf wf q) (x := if mirR mf tq c then 1 else 0) (M' := mX7_isMirrored) dX7_glintOf_18 lkX7_63 mcX7_isMirrored hp_62 rfl (ev_X7_isMirrored (t := tq) (by omega)) rfl rfl (Nat.le_of_ble_eq_true rfl) ?_
    refine xg_bz (pc := 21) (tgt := 36) dX7_glintOf_21 (by decide) (fun c_21 => ?_) (fun c_21 => ?_)
    ·
      refine xg_iconst (v := 0) (pc := 36) dX7_glintOf_36 (by decide) ?_
      refine xg_iadd (pc := 37) dX7_glintOf_37 ?_
      refine xg_istore_n (pc := 38) (ls' := [some (.ref 62), some (.int c), some (.int ((sumI (gR mf c) tq) + 0)), some (.int (nI tq))]) dX7_glintOf_38 (by decide) rfl ?_
      refine xg_iinc (pc := 39) (y := nI (tq + 1)) (ls' := [some (.ref 62), some (.int c), some (.int ((sumI (gR mf c) tq) + 0)), some (.int (nI (tq + 1)))]) dX7_glintOf_39 rfl (xinc _) (by decide) rfl ?_
      refine xg_goto (pc := 42) (tgt := 4) dX7_glintOf_42 (by decide) ?_
      rw [show ((sumI (gR mf c) tq) + 0 : Int32) = sumI (gR mf c) (tq + 1) from by first | rw [sumI, gR, if_pos c_21] | rw [sumI, gR, if_neg c_21]]
      exact ih (tq + 1) (by omega)
    ·
      refine xg_aload_n (pc := 24) dX7_glintOf_24 rfl ?_
      refine xg_iload_n (pc := 25) dX7_glintOf_25 rfl ?_
      refine xg_iload_n (pc := 26) dX7_glintOf_26 rfl ?_
      refine xg_bipush (v := 8) (pc := 27) dX7_glintOf_27 (by decide) ?_
      refine xg_idiv (pc := 29) dX7_glintOf_29 (by decide) ?_
      refine xg_cvI (pc := 30) (h1 := hp lk o mf wf q) (x := shn (mf (5 + 5 * tq)) (mf (5 + 5 * tq + 3)) (c / 8)) (M' := mX7_shineOf) dX7_glintOf_30 lkX7_67 mcX7_shineOf hp_62 rfl (ev_X7_shineOf (t := tq) (by omega) (row1 hc)) rfl rfl (Nat.le_of_ble_eq_true rfl) ?_
      refine xg_goto (pc := 33) (tgt := 37) dX7_glintOf_33 (by decide) ?_
      refine xg_iadd (pc := 37) dX7_glintOf_37 ?_
      refine xg_istore_n (pc := 38) (ls' := [some (.ref 62), some (.int c), some (.int ((sumI (gR mf c) tq) + (shn (mf (5 + 5 * tq)) (mf (5 + 5 * tq + 3)) (c / 8)))), some (.int (nI tq))]) dX7_glintOf_38 (by decide) rfl ?_
      refine xg_iinc (pc := 39) (y := nI (tq + 1)) (ls' := [some (.ref 62), some (.int c), some (.int ((sumI (gR mf c) tq) + (shn (mf (5 + 5 * tq)) (mf (5 + 5 * tq + 3)) (c / 8)))), some (.int (nI (tq + 1)))]) dX7_glintOf_39 rfl (xinc _) (by decide) rfl ?_
      refine xg_goto (pc := 42) (tgt := 4) dX7_glintOf_42 (by decide) ?_
      rw [show ((sumI (gR mf c) tq) + (shn (mf (5 + 5 * tq)) (mf (5 + 5 * tq + 3)) (c / 8)) : Int32) = sumI (gR mf c) (tq + 1) from by first | rw [sumI, gR, if_pos c_21] | rw [sumI, gR, if_neg c_21]]
      exact ih (tq + 1) (by omega)
set_option maxRecDepth 100000 in
theorem ev_X7_glintOf {c : Int32} (ok : okN mf) (hc : 0 ≤ c ∧ c ≤ 47) : xDv X false (d + 3) mX7_glintOf [.ref 62, .int c] (hp lk o mf wf q) [.int (glR mf c)] (hp lk o mf wf q) := by
  refine xDv.of (ls := [some (.ref 62), some (.int c), none, none]) mcX7_glintOf.1.2.2.2.2 (Nat.le_of_ble_eq_true rfl) rfl ?_
  refine xg_iconst (v := 0) (pc := 0) dX7_glintOf_0 (by decide) ?_
  refine xg_istore_n (pc := 1) (ls' := [some (.ref 62), some (.int c), some (.int 0), none]) dX7_glintOf_1 (by decide) rfl ?_
  refine xg_iconst (v := 0) (pc := 2) dX7_glintOf_2 (by decide) ?_
  refine xg_istore_n (pc := 3) (ls' := [some (.ref 62), some (.int c), some (.int 0), some (.int 0)]) dX7_glintOf_3 (by decide) rfl ?_
  exact lp_X7_glintOf ok hc (nT mf) 0 (by omega)
set_option maxRecDepth 100000 in
theorem lp_X7_mirrored {c : Int32} (ok : okN mf)  : ∀ (k tq : Nat), tq + k = nT mf → xGo X false (d + 3) 0 0 mX7_mirrored 4 [some (.ref 62), some (.int c), some (.int (orI (oR mf c) tq)), some (.int (nI tq))] [] (hp lk o mf wf q) (fun v h' => v = [.int (orI (oR mf c) (nT mf))] ∧ h' = hp lk o mf wf q) := by
  intro k
  induction k with
  | zero =>
    intro tq ht
    have h8 := ok.2.1
    have etq : tq = nT mf := by omega
    subst etq
    refine xg_iload_n (pc := 4) dX7_mirrored_4 rfl ?_
    refine xg_aload_n (pc := 5) dX7_mirrored_5 rfl ?_
    refine xg_get (pc := 6) dX7_mirrored_6 flX7_9 hp_62 rfl ?_
    refine xg_iconst (v := 3) (pc := 9) dX7_mirrored_9 (by decide) ?_
    refine xg_iald (pc := 10) 3 dX7_mirrored_10 hp_63 (by simp only [xlit, nI_add, pk_mul]) (by omega) (by decide) ?_
    refine xg_eq ok.1 ?_
    refine xg_icmp_ge (pc := 11) (tgt := 39) dX7_mirrored_11 (by decide) (fun c_11 => ?_) (fun c_11 => absurd c_11 (fun q => q (nI_le (by omega) (by omega))))
    refine xg_iload_n (pc := 39) dX7_mirrored_39 rfl ?_
    exact xg_iret (pc := 40) dX7_mirrored_40 rfl (⟨by rfl, rfl⟩)
  | succ k ih =>
    intro tq ht
    have h8 := ok.2.1
    refine xg_iload_n (pc := 4) dX7_mirrored_4 rfl ?_
    refine xg_aload_n (pc := 5) dX7_mirrored_5 rfl ?_
    refine xg_get (pc := 6) dX7_mirrored_6 flX7_9 hp_62 rfl ?_
    refine xg_iconst (v := 3) (pc := 9) dX7_mirrored_9 (by decide) ?_
    refine xg_iald (pc := 10) 3 dX7_mirrored_10 hp_63 (by simp only [xlit, nI_add, pk_mul]) (by omega) (by decide) ?_
    refine xg_eq ok.1 ?_
    refine xg_icmp_ge (pc := 11) (tgt := 39) dX7_mirrored_11 (by decide) (fun c_11 => absurd c_11 (nI_ge (by omega) (by omega))) (fun c_11 => ?_)
    refine xg_iload_n (pc := 14) dX7_mirrored_14 rfl ?_
    refine xg_aload_n (pc := 15) dX7_mirrored_15 rfl ?_
    refine xg_iload_n (pc := 16) dX7_mirrored_16 rfl ?_
    refine xg_iload_n (pc := 17) dX7_mirrored_17 rfl ?_
    refine xg_cvI (pc := 18) (h1 := hp lk o mf wf q) (x := if mirR mf tq c then 1 else 0) (M' := mX7_isMirrored) dX7_mirrored_18 lkX7_63 mcX7_isMirrored hp_62 rfl (ev_X7_isMirrored (t := tq) (by omega)) rfl rfl (Nat.le_of_ble_eq_true rfl) ?_
    refine xg_bz (pc := 21) (tgt := 30) dX7_mirrored_21 (by decide) (fun c_21 => ?_) (fun c_21 => ?_)
    ·
      refine xg_iconst (v := 0) (pc := 30) dX7_mirrored_30 (by decide) ?_
      refine xg_ior (pc := 31) dX7_mirrored_31 ?_
      refine xg_istore_n (pc := 32) (ls' := [some (.ref 62), some (.int c), some (.int ((orI (oR mf c) tq) ||| 0)), some (.int (nI tq))]) dX7_mirrored_32 (by decide) rfl ?_
      refine xg_iinc (pc := 33) (y := nI (tq + 1)) (ls' := [some (.ref 62), some (.int c), some (.int ((orI (oR mf c) tq) ||| 0)), some (.int (nI (tq + 1)))]) dX7_mirrored_33 rfl (xinc _) (by decide) rfl ?_
      refine xg_goto (pc := 36) (tgt := 4) dX7_mirrored_36 (by decide) ?_
      rw [show ((orI (oR mf c) tq) ||| 0 : Int32) = orI (oR mf c) (tq + 1) from by first | rw [orI, oR, if_pos c_21] | rw [orI, oR, if_neg c_21]]
      exact ih (tq + 1) (by omega)
    ·
      refine xg_iconst (v := 1) (pc := 24) dX7_mirrored_24 (by decide) ?_
      refine xg_iload_n (pc := 25) dX7_mirrored_25 rfl ?_
      refine xg_ishl (pc := 26) dX7_mirrored_26 ?_
      refine xg_goto (pc := 27) (tgt := 31) dX7_mirrored_27 (by decide) ?_
      refine xg_ior (pc := 31) dX7_mirrored_31 ?_
      refine xg_istore_n (pc := 32) (ls' := [some (.ref 62), some (.int c), some (.int ((orI (oR mf c) tq) ||| (1 <<< ((nI tq) &&& 31)))), some (.int (nI tq))]) dX7_mirrored_32 (by decide) rfl ?_
      refine xg_iinc (pc := 33) (y := nI (tq + 1)) (ls' := [some (.ref 62), some (.int c), some (.int ((orI (oR mf c) tq) ||| (1 <<< ((nI tq) &&& 31)))), some (.int (nI (tq + 1)))]) dX7_mirrored_33 rfl (xinc _) (by decide) rfl ?_
      refine xg_goto (pc := 36) (tgt := 4) dX7_mirrored_36 (by decide) ?_
      rw [show ((orI (oR mf c) tq) ||| (1 <<< ((nI tq) &&& 31)) : Int32) = orI (oR mf c) (tq + 1) from by first | rw [orI, oR, if_pos c_21] | rw [orI, oR, if_neg c_21]]
      exact ih (tq + 1) (by omega)
set_option maxRecDepth 100000 in
theorem ev_X7_mirrored {c : Int32} (ok : okN mf)  : xDv X false (d + 3) mX7_mirrored [.ref 62, .int c] (hp lk o mf wf q) [.int (orI (oR mf c) (nT mf))] (hp lk o mf wf q) := by
  refine xDv.of (ls := [some (.ref 62), some (.int c), none, none]) mcX7_mirrored.1.2.2.2.2 (Nat.le_of_ble_eq_true rfl) rfl ?_
  refine xg_iconst (v := 0) (pc := 0) dX7_mirrored_0 (by decide) ?_
  refine xg_istore_n (pc := 1) (ls' := [some (.ref 62), some (.int c), some (.int 0), none]) dX7_mirrored_1 (by decide) rfl ?_
  refine xg_iconst (v := 0) (pc := 2) dX7_mirrored_2 (by decide) ?_
  refine xg_istore_n (pc := 3) (ls' := [some (.ref 62), some (.int c), some (.int 0), some (.int 0)]) dX7_mirrored_3 (by decide) rfl ?_
  exact lp_X7_mirrored ok (nT mf) 0 (by omega)
set_option maxRecDepth 100000 in
theorem lp_X7_taxAt {c : Int32} (ok : okN mf)  : ∀ (k tq : Nat), tq + k = nT mf → xGo X false (d + 3) 0 0 mX7_taxAt 4 [some (.ref 62), some (.int c), some (.int (sumI (tR mf c) tq)), some (.int (nI tq))] [] (hp lk o mf wf q) (fun v h' => v = [.int (sumI (tR mf c) (nT mf))] ∧ h' = hp lk o mf wf q) := by
  intro k
  induction k with
  | zero =>
    intro tq ht
    have h8 := ok.2.1
    have etq : tq = nT mf := by omega
    subst etq
    refine xg_iload_n (pc := 4) dX7_taxAt_4 rfl ?_
    refine xg_aload_n (pc := 5) dX7_taxAt_5 rfl ?_
    refine xg_get (pc := 6) dX7_taxAt_6 flX7_9 hp_62 rfl ?_
    refine xg_iconst (v := 3) (pc := 9) dX7_taxAt_9 (by decide) ?_
    refine xg_iald (pc := 10) 3 dX7_taxAt_10 hp_63 (by simp only [xlit, nI_add, pk_mul]) (by omega) (by decide) ?_
    refine xg_eq ok.1 ?_
    refine xg_icmp_ge (pc := 11) (tgt := 41) dX7_taxAt_11 (by decide) (fun c_11 => ?_) (fun c_11 => absurd c_11 (fun q => q (nI_le (by omega) (by omega))))
    refine xg_iload_n (pc := 41) dX7_taxAt_41 rfl ?_
    exact xg_iret (pc := 42) dX7_taxAt_42 rfl (⟨by rfl, rfl⟩)
  | succ k ih =>
    intro tq ht
    have h8 := ok.2.1
    refine xg_iload_n (pc := 4) dX7_taxAt_4 rfl ?_
    refine xg_aload_n (pc := 5) dX7_taxAt_5 rfl ?_
    refine xg_get (pc := 6) dX7_taxAt_6 flX7_9 hp_62 rfl ?_
    refine xg_iconst (v := 3) (pc := 9) dX7_taxAt_9 (by decide) ?_
    refine xg_iald (pc := 10) 3 dX7_taxAt_10 hp_63 (by simp only [xlit, nI_add, pk_mul]) (by omega) (by decide) ?_
    refine xg_eq ok.1 ?_
    refine xg_icmp_ge (pc := 11) (tgt := 41) dX7_taxAt_11 (by decide) (fun c_11 => absurd c_11 (nI_ge (by omega) (by omega))) (fun c_11 => ?_)
    refine xg_iload_n (pc := 14) dX7_taxAt_14 rfl ?_
    refine xg_aload_n (pc := 15) dX7_taxAt_15 rfl ?_
    refine xg_iload_n (pc := 16) dX7_taxAt_16 rfl ?_
    refine xg_iload_n (pc := 17) dX7_taxAt_17 rfl ?_
    refine xg_cvI (pc := 18) (h1 := hp lk o mf wf q) (x := if mirR mf tq c then 1 else 0) (M' := mX7_isMirrored) dX7_taxAt_18 lkX7_63 mcX7_isMirrored hp_62 rfl (ev_X7_isMirrored (t := tq) (by omega)) rfl rfl (Nat.le_of_ble_eq_true rfl) ?_
    refine xg_bz (pc := 21) (tgt := 32) dX7_taxAt_21 (by decide) (fun c_21 => ?_) (fun c_21 => ?_)
    ·
      refine xg_iconst (v := 0) (pc := 32) dX7_taxAt_32 (by decide) ?_
      refine xg_iadd (pc := 33) dX7_taxAt_33 ?_
      refine xg_istore_n (pc := 34) (ls' := [some (.ref 62), some (.int c), some (.int ((sumI (tR mf c) tq) + 0)), some (.int (nI tq))]) dX7_taxAt_34 (by decide) rfl ?_
      refine xg_iinc (pc := 35) (y := nI (tq + 1)) (ls' := [some (.ref 62), some (.int c), some (.int ((sumI (tR mf c) tq) + 0)), some (.int (nI (tq + 1)))]) dX7_taxAt_35 rfl (xinc _) (by decide) rfl ?_
      refine xg_goto (pc := 38) (tgt := 4) dX7_taxAt_38 (by decide) ?_
      rw [show ((sumI (tR mf c) tq) + 0 : Int32) = sumI (tR mf c) (tq + 1) from by first | rw [sumI, tR, if_pos c_21] | rw [sumI, tR, if_neg c_21]]
      exact ih (tq + 1) (by omega)
    ·
      refine xg_aload_n (pc := 24) dX7_taxAt_24 rfl ?_
      refine xg_iload_n (pc := 25) dX7_taxAt_25 rfl ?_
      refine xg_cvI (pc := 26) (h1 := hp lk o mf wf q) (x := txd (mf (5 + 5 * tq)) (mf (5 + 5 * tq + 4))) (M' := mX7_taxOf) dX7_taxAt_26 lkX7_74 mcX7_taxOf hp_62 rfl (ev_X7_taxOf (t := tq) (by omega)) rfl rfl (Nat.le_of_ble_eq_true rfl) ?_
      refine xg_goto (pc := 29) (tgt := 33) dX7_taxAt_29 (by decide) ?_
      refine xg_iadd (pc := 33) dX7_taxAt_33 ?_
      refine xg_istore_n (pc := 34) (ls' := [some (.ref 62), some (.int c), some (.int ((sumI (tR mf c) tq) + (txd (mf (5 + 5 * tq)) (mf (5 + 5 * tq + 4))))), some (.int (nI tq))]) dX7_taxAt_34 (by decide) rfl ?_
      refine xg_iinc (pc := 35) (y := nI (tq + 1)) (ls' := [some (.ref 62), some (.int c), some (.int ((sumI (tR mf c) tq) + (txd (mf (5 + 5 * tq)) (mf (5 + 5 * tq + 4))))), some (.int (nI (tq + 1)))]) dX7_taxAt_35 rfl (xinc _) (by decide) rfl ?_
      refine xg_goto (pc := 38) (tgt := 4) dX7_taxAt_38 (by decide) ?_
      rw [show ((sumI (tR mf c) tq) + (txd (mf (5 + 5 * tq)) (mf (5 + 5 * tq + 4))) : Int32) = sumI (tR mf c) (tq + 1) from by first | rw [sumI, tR, if_pos c_21] | rw [sumI, tR, if_neg c_21]]
      exact ih (tq + 1) (by omega)
set_option maxRecDepth 100000 in
theorem ev_X7_taxAt {c : Int32} (ok : okN mf)  : xDv X false (d + 3) mX7_taxAt [.ref 62, .int c] (hp lk o mf wf q) [.int (sumI (tR mf c) (nT mf))] (hp lk o mf wf q) := by
  refine xDv.of (ls := [some (.ref 62), some (.int c), none, none]) mcX7_taxAt.1.2.2.2.2 (Nat.le_of_ble_eq_true rfl) rfl ?_
  refine xg_iconst (v := 0) (pc := 0) dX7_taxAt_0 (by decide) ?_
  refine xg_istore_n (pc := 1) (ls' := [some (.ref 62), some (.int c), some (.int 0), none]) dX7_taxAt_1 (by decide) rfl ?_
  refine xg_iconst (v := 0) (pc := 2) dX7_taxAt_2 (by decide) ?_
  refine xg_istore_n (pc := 3) (ls' := [some (.ref 62), some (.int c), some (.int 0), some (.int 0)]) dX7_taxAt_3 (by decide) rfl ?_
  exact lp_X7_taxAt ok (nT mf) 0 (by omega)
set_option maxRecDepth 100000 in
theorem lp_X7_boatsAt {c : Int32} (ok : okN mf)  : ∀ (k tq : Nat), tq + k = nB mf → xGo X false (d + 1) 0 0 mX7_boatsAt 4 [some (.ref 62), some (.int c), some (.int (orI (bA mf c) tq)), some (.int (nI tq))] [] (hp lk o mf wf q) (fun v h' => v = [.int (orI (bA mf c) (nB mf))] ∧ h' = hp lk o mf wf q) := by
  intro k
  induction k with
  | zero =>
    intro tq ht
    have h5 := ok.2.2.2
    have etq : tq = nB mf := by omega
    subst etq
    refine xg_iload_n (pc := 4) dX7_boatsAt_4 rfl ?_
    refine xg_aload_n (pc := 5) dX7_boatsAt_5 rfl ?_
    refine xg_get (pc := 6) dX7_boatsAt_6 flX7_9 hp_62 rfl ?_
    refine xg_iconst (v := 4) (pc := 9) dX7_boatsAt_9 (by decide) ?_
    refine xg_iald (pc := 10) 4 dX7_boatsAt_10 hp_63 (by simp only [xlit, nI_add, pk_mul]) (by omega) (by decide) ?_
    refine xg_eq ok.2.2.1 ?_
    refine xg_icmp_ge (pc := 11) (tgt := 40) dX7_boatsAt_11 (by decide) (fun c_11 => ?_) (fun c_11 => absurd c_11 (fun q => q (nI_le (by omega) (by omega))))
    refine xg_iload_n (pc := 40) dX7_boatsAt_40 rfl ?_
    exact xg_iret (pc := 41) dX7_boatsAt_41 rfl (⟨by rfl, rfl⟩)
  | succ k ih =>
    intro tq ht
    have h5 := ok.2.2.2
    refine xg_iload_n (pc := 4) dX7_boatsAt_4 rfl ?_
    refine xg_aload_n (pc := 5) dX7_boatsAt_5 rfl ?_
    refine xg_get (pc := 6) dX7_boatsAt_6 flX7_9 hp_62 rfl ?_
    refine xg_iconst (v := 4) (pc := 9) dX7_boatsAt_9 (by decide) ?_
    refine xg_iald (pc := 10) 4 dX7_boatsAt_10 hp_63 (by simp only [xlit, nI_add, pk_mul]) (by omega) (by decide) ?_
    refine xg_eq ok.2.2.1 ?_
    refine xg_icmp_ge (pc := 11) (tgt := 40) dX7_boatsAt_11 (by decide) (fun c_11 => absurd c_11 (nI_ge (by omega) (by omega))) (fun c_11 => ?_)
    refine xg_iload_n (pc := 14) dX7_boatsAt_14 rfl ?_
    refine xg_aload_n (pc := 15) dX7_boatsAt_15 rfl ?_
    refine xg_iload_n (pc := 16) dX7_boatsAt_16 rfl ?_
    refine xg_iconst (v := 0) (pc := 17) dX7_boatsAt_17 (by decide) ?_
    refine xg_cvI (pc := 18) (h1 := hp lk o mf wf q) (x := mf (45 + 4 * tq)) (M' := mX7_has) dX7_boatsAt_18 lkX7_77 mcX7_has hp_62 rfl (ev_X7_has (j := tq) (w := 0) (by omega)) rfl rfl (Nat.le_of_ble_eq_true rfl) ?_
    refine xg_iload_n (pc := 21) dX7_boatsAt_21 rfl ?_
    refine xg_icmp_ne (pc := 22) (tgt := 31) dX7_boatsAt_22 (by decide) (fun c_22 => ?_) (fun c_22 => ?_)
    ·
      refine xg_iconst (v := 0) (pc := 31) dX7_boatsAt_31 (by decide) ?_
      refine xg_ior (pc := 32) dX7_boatsAt_32 ?_
      refine xg_istore_n (pc := 33) (ls' := [some (.ref 62), some (.int c), some (.int ((orI (bA mf c) tq) ||| 0)), some (.int (nI tq))]) dX7_boatsAt_33 (by decide) rfl ?_
      refine xg_iinc (pc := 34) (y := nI (tq + 1)) (ls' := [some (.ref 62), some (.int c), some (.int ((orI (bA mf c) tq) ||| 0)), some (.int (nI (tq + 1)))]) dX7_boatsAt_34 rfl (xinc _) (by decide) rfl ?_
      refine xg_goto (pc := 37) (tgt := 4) dX7_boatsAt_37 (by decide) ?_
      rw [show ((orI (bA mf c) tq) ||| 0 : Int32) = orI (bA mf c) (tq + 1) from by first | rw [orI, bA, if_pos c_22] | rw [orI, bA, if_neg c_22]]
      exact ih (tq + 1) (by omega)
    ·
      refine xg_iconst (v := 1) (pc := 25) dX7_boatsAt_25 (by decide) ?_
      refine xg_iload_n (pc := 26) dX7_boatsAt_26 rfl ?_
      refine xg_ishl (pc := 27) dX7_boatsAt_27 ?_
      refine xg_goto (pc := 28) (tgt := 32) dX7_boatsAt_28 (by decide) ?_
      refine xg_ior (pc := 32) dX7_boatsAt_32 ?_
      refine xg_istore_n (pc := 33) (ls' := [some (.ref 62), some (.int c), some (.int ((orI (bA mf c) tq) ||| (1 <<< ((nI tq) &&& 31)))), some (.int (nI tq))]) dX7_boatsAt_33 (by decide) rfl ?_
      refine xg_iinc (pc := 34) (y := nI (tq + 1)) (ls' := [some (.ref 62), some (.int c), some (.int ((orI (bA mf c) tq) ||| (1 <<< ((nI tq) &&& 31)))), some (.int (nI (tq + 1)))]) dX7_boatsAt_34 rfl (xinc _) (by decide) rfl ?_
      refine xg_goto (pc := 37) (tgt := 4) dX7_boatsAt_37 (by decide) ?_
      rw [show ((orI (bA mf c) tq) ||| (1 <<< ((nI tq) &&& 31)) : Int32) = orI (bA mf c) (tq + 1) from by first | rw [orI, bA, if_pos c_22] | rw [orI, bA, if_neg c_22]]
      exact ih (tq + 1) (by omega)
set_option maxRecDepth 100000 in
theorem ev_X7_boatsAt {c : Int32} (ok : okN mf)  : xDv X false (d + 1) mX7_boatsAt [.ref 62, .int c] (hp lk o mf wf q) [.int (orI (bA mf c) (nB mf))] (hp lk o mf wf q) := by
  refine xDv.of (ls := [some (.ref 62), some (.int c), none, none]) mcX7_boatsAt.1.2.2.2.2 (Nat.le_of_ble_eq_true rfl) rfl ?_
  refine xg_iconst (v := 0) (pc := 0) dX7_boatsAt_0 (by decide) ?_
  refine xg_istore_n (pc := 1) (ls' := [some (.ref 62), some (.int c), some (.int 0), none]) dX7_boatsAt_1 (by decide) rfl ?_
  refine xg_iconst (v := 0) (pc := 2) dX7_boatsAt_2 (by decide) ?_
  refine xg_istore_n (pc := 3) (ls' := [some (.ref 62), some (.int c), some (.int 0), some (.int 0)]) dX7_boatsAt_3 (by decide) rfl ?_
  exact lp_X7_boatsAt ok (nB mf) 0 (by omega)
set_option maxRecDepth 100000 in
theorem lp_X7_sumOf {w : Nat} (ok : okN mf) (hw : w < 4) : ∀ (k tq : Nat), tq + k = nB mf → xGo X false (d + 1) 0 0 mX7_sumOf 4 [some (.ref 62), some (.int (nI w)), some (.int (sumI (sB mf w) tq)), some (.int (nI tq))] [] (hp lk o mf wf q) (fun v h' => v = [.int (sumI (sB mf w) (nB mf))] ∧ h' = hp lk o mf wf q) := by
  intro k
  induction k with
  | zero =>
    intro tq ht
    have h5 := ok.2.2.2
    have etq : tq = nB mf := by omega
    subst etq
    refine xg_iload_n (pc := 4) dX7_sumOf_4 rfl ?_
    refine xg_aload_n (pc := 5) dX7_sumOf_5 rfl ?_
    refine xg_get (pc := 6) dX7_sumOf_6 flX7_9 hp_62 rfl ?_
    refine xg_iconst (v := 4) (pc := 9) dX7_sumOf_9 (by decide) ?_
    refine xg_iald (pc := 10) 4 dX7_sumOf_10 hp_63 (by simp only [xlit, nI_add, pk_mul]) (by omega) (by decide) ?_
    refine xg_eq ok.2.2.1 ?_
    refine xg_icmp_ge (pc := 11) (tgt := 29) dX7_sumOf_11 (by decide) (fun c_11 => ?_) (fun c_11 => absurd c_11 (fun q => q (nI_le (by omega) (by omega))))
    refine xg_iload_n (pc := 29) dX7_sumOf_29 rfl ?_
    exact xg_iret (pc := 30) dX7_sumOf_30 rfl (⟨by rfl, rfl⟩)
  | succ k ih =>
    intro tq ht
    have h5 := ok.2.2.2
    refine xg_iload_n (pc := 4) dX7_sumOf_4 rfl ?_
    refine xg_aload_n (pc := 5) dX7_sumOf_5 rfl ?_
    refine xg_get (pc := 6) dX7_sumOf_6 flX7_9 hp_62 rfl ?_
    refine xg_iconst (v := 4) (pc := 9) dX7_sumOf_9 (by decide) ?_
    refine xg_iald (pc := 10) 4 dX7_sumOf_10 hp_63 (by simp only [xlit, nI_add, pk_mul]) (by omega) (by decide) ?_
    refine xg_eq ok.2.2.1 ?_
    refine xg_icmp_ge (pc := 11) (tgt := 29) dX7_sumOf_11 (by decide) (fun c_11 => absurd c_11 (nI_ge (by omega) (by omega))) (fun c_11 => ?_)
    refine xg_iload_n (pc := 14) dX7_sumOf_14 rfl ?_
    refine xg_aload_n (pc := 15) dX7_sumOf_15 rfl ?_
    refine xg_iload_n (pc := 16) dX7_sumOf_16 rfl ?_
    refine xg_iload_n (pc := 17) dX7_sumOf_17 rfl ?_
    refine xg_cvI (pc := 18) (h1 := hp lk o mf wf q) (x := mf (45 + 4 * tq + w)) (M' := mX7_has) dX7_sumOf_18 lkX7_77 mcX7_has hp_62 rfl (ev_X7_has (j := tq) (w := w) (by omega)) rfl rfl (Nat.le_of_ble_eq_true rfl) ?_
    refine xg_iadd (pc := 21) dX7_sumOf_21 ?_
    refine xg_istore_n (pc := 22) (ls' := [some (.ref 62), some (.int (nI w)), some (.int ((sumI (sB mf w) tq) + (mf (45 + 4 * tq + w)))), some (.int (nI tq))]) dX7_sumOf_22 (by decide) rfl ?_
    refine xg_iinc (pc := 23) (y := nI (tq + 1)) (ls' := [some (.ref 62), some (.int (nI w)), some (.int ((sumI (sB mf w) tq) + (mf (45 + 4 * tq + w)))), some (.int (nI (tq + 1)))]) dX7_sumOf_23 rfl (xinc _) (by decide) rfl ?_
    refine xg_goto (pc := 26) (tgt := 4) dX7_sumOf_26 (by decide) ?_
    rw [show ((sumI (sB mf w) tq) + (mf (45 + 4 * tq + w)) : Int32) = sumI (sB mf w) (tq + 1) from by rw [sumI, sB]]
    exact ih (tq + 1) (by omega)
set_option maxRecDepth 100000 in
theorem ev_X7_sumOf {w : Nat} (ok : okN mf) (hw : w < 4) : xDv X false (d + 1) mX7_sumOf [.ref 62, .int (nI w)] (hp lk o mf wf q) [.int (sumI (sB mf w) (nB mf))] (hp lk o mf wf q) := by
  refine xDv.of (ls := [some (.ref 62), some (.int (nI w)), none, none]) mcX7_sumOf.1.2.2.2.2 (Nat.le_of_ble_eq_true rfl) rfl ?_
  refine xg_iconst (v := 0) (pc := 0) dX7_sumOf_0 (by decide) ?_
  refine xg_istore_n (pc := 1) (ls' := [some (.ref 62), some (.int (nI w)), some (.int 0), none]) dX7_sumOf_1 (by decide) rfl ?_
  refine xg_iconst (v := 0) (pc := 2) dX7_sumOf_2 (by decide) ?_
  refine xg_istore_n (pc := 3) (ls' := [some (.ref 62), some (.int (nI w)), some (.int 0), some (.int 0)]) dX7_sumOf_3 (by decide) rfl ?_
  exact lp_X7_sumOf ok hw (nB mf) 0 (by omega)
end
