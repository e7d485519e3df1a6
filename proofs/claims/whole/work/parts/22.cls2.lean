section
variable {X : xS} {d : Nat} {lk : Nat → Nat → Int32} {o : xO} {mf wf : Nat → Int32} {q : xQ} {f : Nat → Int32} {L K : Nat}
set_option maxRecDepth 100000 in
theorem ev_X1_hasRipples {c : Int32} (hL : L < 3) : xDv X false (d + 0) mX1_hasRipples [.ref (1 + 16 * L), .int c] (hp (va_up lk L f) o mf wf q) [.int (if (f 1 >>> (c &&& 31)) &&& 1 = 1 then 1 else 0)] (hp (va_up lk L f) o mf wf q) := by
  refine xDv.of (ls := [some (.ref (1 + 16 * L)), some (.int c)]) mcX1_hasRipples.1.2.2.2.2 (Nat.le_of_ble_eq_true rfl) rfl ?_
  refine xg_aload_n (pc := 0) dX1_hasRipples_0 rfl ?_
  refine xg_get (pc := 1) dX1_hasRipples_1 flX1_29 (hp_lake hL) rfl ?_
  refine xg_iload_n (pc := 4) dX1_hasRipples_4 rfl ?_
  refine xg_ishr (pc := 5) dX1_hasRipples_5 ?_
  refine xg_iconst (v := 1) (pc := 6) dX1_hasRipples_6 (by decide) ?_
  refine xg_iand (pc := 7) dX1_hasRipples_7 ?_
  refine xg_iconst (v := 1) (pc := 8) dX1_hasRipples_8 (by decide) ?_
  refine xg_icmp_ne (pc := 9) (tgt := 16) dX1_hasRipples_9 (by decide) (fun c_9 => ?_) (fun c_9 => ?_)
  ·
    refine xg_iconst (v := 0) (pc := 16) dX1_hasRipples_16 (by decide) ?_
    exact xg_zret (pc := 17) (ty := .boolean) dX1_hasRipples_17 rfl rfl (⟨by simp_all, rfl⟩)
  ·
    refine xg_iconst (v := 1) (pc := 12) dX1_hasRipples_12 (by decide) ?_
    refine xg_goto (pc := 13) (tgt := 17) dX1_hasRipples_13 (by decide) ?_
    exact xg_zret (pc := 17) (ty := .boolean) dX1_hasRipples_17 rfl rfl (⟨by simp_all, rfl⟩)
set_option maxRecDepth 100000 in
theorem lp_X1_glintOf {c : Int32} (hL : L < 3) (ok : okN f) (hc : 0 ≤ c ∧ c ≤ 47) (hg : ¬ f 2 = 1) : ∀ (k tq : Nat), tq + k = nT f → xGo X false (d + 3) 0 0 mX1_glintOf 14 [some (.ref (1 + 16 * L)), some (.int c), some (.int (sumI (gC f c) tq)), some (.int (nI tq))] [] (hp (va_up lk L f) o mf wf q) (fun v h' => v = [.int (glC f c)] ∧ h' = hp (va_up lk L f) o mf wf q) := by
  intro k
  induction k with
  | zero =>
    intro tq ht
    have h8 := ok.2.1
    have etq : tq = nT f := by omega
    subst etq
    refine xg_iload_n (pc := 14) dX1_glintOf_14 rfl ?_
    refine xg_aload_n (pc := 15) dX1_glintOf_15 rfl ?_
    refine xg_get (pc := 16) dX1_glintOf_16 flX1_35 (hp_lake hL) rfl ?_
    refine xg_eq ok.1 ?_
    refine xg_icmp_ge (pc := 19) (tgt := 61) dX1_glintOf_19 (by decide) (fun c_19 => ?_) (fun c_19 => absurd c_19 (fun q => q (nI_le (by omega) (by omega))))
    refine xg_aload_n (pc := 61) dX1_glintOf_61 rfl ?_
    refine xg_iload_n (pc := 62) dX1_glintOf_62 rfl ?_
    refine xg_bipush (v := 8) (pc := 63) dX1_glintOf_63 (by decide) ?_
    refine xg_irem (pc := 65) dX1_glintOf_65 (by decide) ?_
    refine xg_cvI (pc := 66) (h1 := hp (va_up lk L f) o mf wf q) (x := if (f 1 >>> ((c - c / 8 * 8) &&& 31)) &&& 1 = 1 then 1 else 0) (M' := mX1_hasRipples) dX1_glintOf_66 lkX1_83 mcX1_hasRipples (hp_lake hL) rfl (ev_X1_hasRipples hL) rfl rfl (Nat.le_of_ble_eq_true rfl) ?_
    refine xg_bz (pc := 69) (tgt := 78) dX1_glintOf_69 (by decide) (fun c_69 => ?_) (fun c_69 => ?_)
    ·
      refine xg_iload_n (pc := 78) dX1_glintOf_78 rfl ?_
      exact xg_iret (pc := 79) dX1_glintOf_79 rfl (⟨by simp_all [glC, rip, md], rfl⟩)
    ·
      refine xg_iload_n (pc := 72) dX1_glintOf_72 rfl ?_
      refine xg_iconst (v := 3) (pc := 73) dX1_glintOf_73 (by decide) ?_
      refine xg_idiv (pc := 74) dX1_glintOf_74 (by decide) ?_
      refine xg_goto (pc := 75) (tgt := 79) dX1_glintOf_75 (by decide) ?_
      exact xg_iret (pc := 79) dX1_glintOf_79 rfl (⟨by simp_all [glC, rip, md], rfl⟩)
  | succ k ih =>
    intro tq ht
    have h8 := ok.2.1
    refine xg_iload_n (pc := 14) dX1_glintOf_14 rfl ?_
    refine xg_aload_n (pc := 15) dX1_glintOf_15 rfl ?_
    refine xg_get (pc := 16) dX1_glintOf_16 flX1_35 (hp_lake hL) rfl ?_
    refine xg_eq ok.1 ?_
    refine xg_icmp_ge (pc := 19) (tgt := 61) dX1_glintOf_19 (by decide) (fun c_19 => absurd c_19 (nI_ge (by omega) (by omega))) (fun c_19 => ?_)
    refine xg_aload_n (pc := 22) dX1_glintOf_22 rfl ?_
    refine xg_get (pc := 23) dX1_glintOf_23 flX1_11 (hp_lake hL) rfl ?_
    refine xg_iload_n (pc := 26) dX1_glintOf_26 rfl ?_
    refine xg_aald (pc := 27) (r := 3 + 16 * L + tq) tq dX1_glintOf_27 (hp_tarr hL) (by decide) rfl (by omega) (by decide) (if_pos (by omega)) ?_
    refine xg_iload_n (pc := 28) dX1_glintOf_28 rfl ?_
    refine xg_aload_n (pc := 29) dX1_glintOf_29 rfl ?_
    refine xg_get (pc := 30) dX1_glintOf_30 flX1_25 (hp_lake hL) rfl ?_
    refine xg_cvI (pc := 33) (h1 := hp (va_up lk L f) o mf wf q) (x := if mirC f tq c then 1 else 0) (M' := mX5_isMirroredIn) dX1_glintOf_33 lkX1_75 mcX5_isMirroredIn (hp_thing hL (by omega)) rfl (ev_X5_isMirroredIn (i := tq) hL (by omega)) rfl rfl (Nat.le_of_ble_eq_true rfl) ?_
    refine xg_bz (pc := 36) (tgt := 55) dX1_glintOf_36 (by decide) (fun c_36 => ?_) (fun c_36 => ?_)
    ·
      refine xg_iinc (pc := 55) (y := nI (tq + 1)) (ls' := [some (.ref (1 + 16 * L)), some (.int c), some (.int (sumI (gC f c) tq)), some (.int (nI (tq + 1)))]) dX1_glintOf_55 rfl (xinc _) (by decide) rfl ?_
      refine xg_goto (pc := 58) (tgt := 14) dX1_glintOf_58 (by decide) ?_
      rw [show (sumI (gC f c) tq : Int32) = sumI (gC f c) (tq + 1) from by first | rw [sumI, gC, if_pos c_36] | (rw [sumI, gC, if_neg c_36]; simp)]
      exact ih (tq + 1) (by omega)
    ·
      refine xg_iload_n (pc := 39) dX1_glintOf_39 rfl ?_
      refine xg_aload_n (pc := 40) dX1_glintOf_40 rfl ?_
      refine xg_get (pc := 41) dX1_glintOf_41 flX1_11 (hp_lake hL) rfl ?_
      refine xg_iload_n (pc := 44) dX1_glintOf_44 rfl ?_
      refine xg_aald (pc := 45) (r := 3 + 16 * L + tq) tq dX1_glintOf_45 (hp_tarr hL) (by decide) rfl (by omega) (by decide) (if_pos (by omega)) ?_
      refine xg_iload_n (pc := 46) dX1_glintOf_46 rfl ?_
      refine xg_bipush (v := 8) (pc := 47) dX1_glintOf_47 (by decide) ?_
      refine xg_idiv (pc := 49) dX1_glintOf_49 (by decide) ?_
      refine xg_cvI (pc := 50) (h1 := hp (va_up lk L f) o mf wf q) (x := shn (f (5 + 5 * tq)) (f (5 + 5 * tq + 3)) (c / 8)) (M' := mX5_shine) dX1_glintOf_50 lkX1_79 mcX5_shine (hp_thing hL (by omega)) rfl (ev_X5_shine (i := tq) hL (by omega) (row0 hc) (row1 hc)) rfl rfl (Nat.le_of_ble_eq_true rfl) ?_
      refine xg_iadd (pc := 53) dX1_glintOf_53 ?_
      refine xg_istore_n (pc := 54) (ls' := [some (.ref (1 + 16 * L)), some (.int c), some (.int ((sumI (gC f c) tq) + (shn (f (5 + 5 * tq)) (f (5 + 5 * tq + 3)) (c / 8)))), some (.int (nI tq))]) dX1_glintOf_54 (by decide) rfl ?_
      refine xg_iinc (pc := 55) (y := nI (tq + 1)) (ls' := [some (.ref (1 + 16 * L)), some (.int c), some (.int ((sumI (gC f c) tq) + (shn (f (5 + 5 * tq)) (f (5 + 5 * tq + 3)) (c / 8)))), some (.int (nI (tq + 1)))]) dX1_glintOf_55 rfl (xinc _) (by decide) rfl ?_
      refine xg_goto (pc := 58) (tgt := 14) dX1_glintOf_58 (by decide) ?_
      rw [show ((sumI (gC f c) tq) + (shn (f (5 + 5 * tq)) (f (5 + 5 * tq + 3)) (c / 8)) : Int32) = sumI (gC f c) (tq + 1) from by first | rw [sumI, gC, if_pos c_36] | (rw [sumI, gC, if_neg c_36]; simp)]
      exact ih (tq + 1) (by omega)
set_option maxRecDepth 100000 in
theorem ev_X1_glintOf {c : Int32} (hL : L < 3) (ok : okN f) (hc : 0 ≤ c ∧ c ≤ 47) : xDv X false (d + 3) mX1_glintOf [.ref (1 + 16 * L), .int c] (hp (va_up lk L f) o mf wf q) [.int (glC f c)] (hp (va_up lk L f) o mf wf q) := by
  refine xDv.of (ls := [some (.ref (1 + 16 * L)), some (.int c), none, none]) mcX1_glintOf.1.2.2.2.2 (Nat.le_of_ble_eq_true rfl) rfl ?_
  refine xg_aload_n (pc := 0) dX1_glintOf_0 rfl ?_
  refine xg_get (pc := 1) dX1_glintOf_1 flX1_32 (hp_lake hL) rfl ?_
  refine xg_iconst (v := 1) (pc := 4) dX1_glintOf_4 (by decide) ?_
  refine xg_icmp_ne (pc := 5) (tgt := 10) dX1_glintOf_5 (by decide) (fun c_5 => ?_) (fun c_5 => ?_)
  ·
    refine xg_iconst (v := 0) (pc := 10) dX1_glintOf_10 (by decide) ?_
    refine xg_istore_n (pc := 11) (ls' := [some (.ref (1 + 16 * L)), some (.int c), some (.int 0), none]) dX1_glintOf_11 (by decide) rfl ?_
    refine xg_iconst (v := 0) (pc := 12) dX1_glintOf_12 (by decide) ?_
    refine xg_istore_n (pc := 13) (ls' := [some (.ref (1 + 16 * L)), some (.int c), some (.int 0), some (.int 0)]) dX1_glintOf_13 (by decide) rfl ?_
    exact lp_X1_glintOf hL ok hc c_5 (nT f) 0 (by omega)
  ·
    refine xg_iconst (v := 0) (pc := 8) dX1_glintOf_8 (by decide) ?_
    exact xg_iret (pc := 9) dX1_glintOf_9 rfl (⟨by simp_all [glC], rfl⟩)
set_option maxRecDepth 100000 in
theorem lp_X1_thingsMirroredIn {c : Int32} (hL : L < 3) (ok : okN f)  : ∀ (k tq : Nat), tq + k = nT f → xGo X false (d + 3) 0 0 mX1_thingsMirroredIn 4 [some (.ref (1 + 16 * L)), some (.int c), some (.int (orI (oC f c) tq)), some (.int (nI tq))] [] (hp (va_up lk L f) o mf wf q) (fun v h' => v = [.int (orI (oC f c) (nT f))] ∧ h' = hp (va_up lk L f) o mf wf q) := by
  intro k
  induction k with
  | zero =>
    intro tq ht
    have h8 := ok.2.1
    have etq : tq = nT f := by omega
    subst etq
    refine xg_iload_n (pc := 4) dX1_thingsMirroredIn_4 rfl ?_
    refine xg_aload_n (pc := 5) dX1_thingsMirroredIn_5 rfl ?_
    refine xg_get (pc := 6) dX1_thingsMirroredIn_6 flX1_35 (hp_lake hL) rfl ?_
    refine xg_eq ok.1 ?_
    refine xg_icmp_ge (pc := 9) (tgt := 41) dX1_thingsMirroredIn_9 (by decide) (fun c_9 => ?_) (fun c_9 => absurd c_9 (fun q => q (nI_le (by omega) (by omega))))
    refine xg_iload_n (pc := 41) dX1_thingsMirroredIn_41 rfl ?_
    exact xg_iret (pc := 42) dX1_thingsMirroredIn_42 rfl (⟨by rfl, rfl⟩)
  | succ k ih =>
    intro tq ht
    have h8 := ok.2.1
    refine xg_iload_n (pc := 4) dX1_thingsMirroredIn_4 rfl ?_
    refine xg_aload_n (pc := 5) dX1_thingsMirroredIn_5 rfl ?_
    refine xg_get (pc := 6) dX1_thingsMirroredIn_6 flX1_35 (hp_lake hL) rfl ?_
    refine xg_eq ok.1 ?_
    refine xg_icmp_ge (pc := 9) (tgt := 41) dX1_thingsMirroredIn_9 (by decide) (fun c_9 => absurd c_9 (nI_ge (by omega) (by omega))) (fun c_9 => ?_)
    refine xg_aload_n (pc := 12) dX1_thingsMirroredIn_12 rfl ?_
    refine xg_get (pc := 13) dX1_thingsMirroredIn_13 flX1_11 (hp_lake hL) rfl ?_
    refine xg_iload_n (pc := 16) dX1_thingsMirroredIn_16 rfl ?_
    refine xg_aald (pc := 17) (r := 3 + 16 * L + tq) tq dX1_thingsMirroredIn_17 (hp_tarr hL) (by decide) rfl (by omega) (by decide) (if_pos (by omega)) ?_
    refine xg_iload_n (pc := 18) dX1_thingsMirroredIn_18 rfl ?_
    refine xg_aload_n (pc := 19) dX1_thingsMirroredIn_19 rfl ?_
    refine xg_get (pc := 20) dX1_thingsMirroredIn_20 flX1_25 (hp_lake hL) rfl ?_
    refine xg_cvI (pc := 23) (h1 := hp (va_up lk L f) o mf wf q) (x := if mirC f tq c then 1 else 0) (M' := mX5_isMirroredIn) dX1_thingsMirroredIn_23 lkX1_75 mcX5_isMirroredIn (hp_thing hL (by omega)) rfl (ev_X5_isMirroredIn (i := tq) hL (by omega)) rfl rfl (Nat.le_of_ble_eq_true rfl) ?_
    refine xg_bz (pc := 26) (tgt := 35) dX1_thingsMirroredIn_26 (by decide) (fun c_26 => ?_) (fun c_26 => ?_)
    ·
      refine xg_iinc (pc := 35) (y := nI (tq + 1)) (ls' := [some (.ref (1 + 16 * L)), some (.int c), some (.int (orI (oC f c) tq)), some (.int (nI (tq + 1)))]) dX1_thingsMirroredIn_35 rfl (xinc _) (by decide) rfl ?_
      refine xg_goto (pc := 38) (tgt := 4) dX1_thingsMirroredIn_38 (by decide) ?_
      rw [show (orI (oC f c) tq : Int32) = orI (oC f c) (tq + 1) from by first | rw [orI, oC, if_pos c_26] | (rw [orI, oC, if_neg c_26]; simp)]
      exact ih (tq + 1) (by omega)
    ·
      refine xg_iload_n (pc := 29) dX1_thingsMirroredIn_29 rfl ?_
      refine xg_iconst (v := 1) (pc := 30) dX1_thingsMirroredIn_30 (by decide) ?_
      refine xg_iload_n (pc := 31) dX1_thingsMirroredIn_31 rfl ?_
      refine xg_ishl (pc := 32) dX1_thingsMirroredIn_32 ?_
      refine xg_ior (pc := 33) dX1_thingsMirroredIn_33 ?_
      refine xg_istore_n (pc := 34) (ls' := [some (.ref (1 + 16 * L)), some (.int c), some (.int ((orI (oC f c) tq) ||| (1 <<< ((nI tq) &&& 31)))), some (.int (nI tq))]) dX1_thingsMirroredIn_34 (by decide) rfl ?_
      refine xg_iinc (pc := 35) (y := nI (tq + 1)) (ls' := [some (.ref (1 + 16 * L)), some (.int c), some (.int ((orI (oC f c) tq) ||| (1 <<< ((nI tq) &&& 31)))), some (.int (nI (tq + 1)))]) dX1_thingsMirroredIn_35 rfl (xinc _) (by decide) rfl ?_
      refine xg_goto (pc := 38) (tgt := 4) dX1_thingsMirroredIn_38 (by decide) ?_
      rw [show ((orI (oC f c) tq) ||| (1 <<< ((nI tq) &&& 31)) : Int32) = orI (oC f c) (tq + 1) from by first | rw [orI, oC, if_pos c_26] | (rw [orI, oC, if_neg c_26]; simp)]
      exact ih (tq + 1) (by omega)
set_option maxRecDepth 100000 in
theorem ev_X1_thingsMirroredIn {c : Int32} (hL : L < 3) (ok : okN f) : xDv X false (d + 3) mX1_thingsMirroredIn [.ref (1 + 16 * L), .int c] (hp (va_up lk L f) o mf wf q) [.int (orI (oC f c) (nT f))] (hp (va_up lk L f) o mf wf q) := by
  refine xDv.of (ls := [some (.ref (1 + 16 * L)), some (.int c), none, none]) mcX1_thingsMirroredIn.1.2.2.2.2 (Nat.le_of_ble_eq_true rfl) rfl ?_
  refine xg_iconst (v := 0) (pc := 0) dX1_thingsMirroredIn_0 (by decide) ?_
  refine xg_istore_n (pc := 1) (ls' := [some (.ref (1 + 16 * L)), some (.int c), some (.int 0), none]) dX1_thingsMirroredIn_1 (by decide) rfl ?_
  refine xg_iconst (v := 0) (pc := 2) dX1_thingsMirroredIn_2 (by decide) ?_
  refine xg_istore_n (pc := 3) (ls' := [some (.ref (1 + 16 * L)), some (.int c), some (.int 0), some (.int 0)]) dX1_thingsMirroredIn_3 (by decide) rfl ?_
  exact lp_X1_thingsMirroredIn hL ok (nT f) 0 (by omega)
set_option maxRecDepth 100000 in
theorem lp_X1_taxOf {c : Int32} (hL : L < 3) (ok : okN f)  : ∀ (k tq : Nat), tq + k = nT f → xGo X false (d + 3) 0 0 mX1_taxOf 4 [some (.ref (1 + 16 * L)), some (.int c), some (.int (sumI (tC f c) tq)), some (.int (nI tq))] [] (hp (va_up lk L f) o mf wf q) (fun v h' => v = [.int (sumI (tC f c) (nT f))] ∧ h' = hp (va_up lk L f) o mf wf q) := by
  intro k
  induction k with
  | zero =>
    intro tq ht
    have h8 := ok.2.1
    have etq : tq = nT f := by omega
    subst etq
    refine xg_iload_n (pc := 4) dX1_taxOf_4 rfl ?_
    refine xg_aload_n (pc := 5) dX1_taxOf_5 rfl ?_
    refine xg_get (pc := 6) dX1_taxOf_6 flX1_35 (hp_lake hL) rfl ?_
    refine xg_eq ok.1 ?_
    refine xg_icmp_ge (pc := 9) (tgt := 47) dX1_taxOf_9 (by decide) (fun c_9 => ?_) (fun c_9 => absurd c_9 (fun q => q (nI_le (by omega) (by omega))))
    refine xg_iload_n (pc := 47) dX1_taxOf_47 rfl ?_
    exact xg_iret (pc := 48) dX1_taxOf_48 rfl (⟨by rfl, rfl⟩)
  | succ k ih =>
    intro tq ht
    have h8 := ok.2.1
    refine xg_iload_n (pc := 4) dX1_taxOf_4 rfl ?_
    refine xg_aload_n (pc := 5) dX1_taxOf_5 rfl ?_
    refine xg_get (pc := 6) dX1_taxOf_6 flX1_35 (hp_lake hL) rfl ?_
    refine xg_eq ok.1 ?_
    refine xg_icmp_ge (pc := 9) (tgt := 47) dX1_taxOf_9 (by decide) (fun c_9 => absurd c_9 (nI_ge (by omega) (by omega))) (fun c_9 => ?_)
    refine xg_aload_n (pc := 12) dX1_taxOf_12 rfl ?_
    refine xg_get (pc := 13) dX1_taxOf_13 flX1_11 (hp_lake hL) rfl ?_
    refine xg_iload_n (pc := 16) dX1_taxOf_16 rfl ?_
    refine xg_aald (pc := 17) (r := 3 + 16 * L + tq) tq dX1_taxOf_17 (hp_tarr hL) (by decide) rfl (by omega) (by decide) (if_pos (by omega)) ?_
    refine xg_iload_n (pc := 18) dX1_taxOf_18 rfl ?_
    refine xg_aload_n (pc := 19) dX1_taxOf_19 rfl ?_
    refine xg_get (pc := 20) dX1_taxOf_20 flX1_25 (hp_lake hL) rfl ?_
    refine xg_cvI (pc := 23) (h1 := hp (va_up lk L f) o mf wf q) (x := if mirC f tq c then 1 else 0) (M' := mX5_isMirroredIn) dX1_taxOf_23 lkX1_75 mcX5_isMirroredIn (hp_thing hL (by omega)) rfl (ev_X5_isMirroredIn (i := tq) hL (by omega)) rfl rfl (Nat.le_of_ble_eq_true rfl) ?_
    refine xg_bz (pc := 26) (tgt := 41) dX1_taxOf_26 (by decide) (fun c_26 => ?_) (fun c_26 => ?_)
    ·
      refine xg_iinc (pc := 41) (y := nI (tq + 1)) (ls' := [some (.ref (1 + 16 * L)), some (.int c), some (.int (sumI (tC f c) tq)), some (.int (nI (tq + 1)))]) dX1_taxOf_41 rfl (xinc _) (by decide) rfl ?_
      refine xg_goto (pc := 44) (tgt := 4) dX1_taxOf_44 (by decide) ?_
      rw [show (sumI (tC f c) tq : Int32) = sumI (tC f c) (tq + 1) from by first | rw [sumI, tC, if_pos c_26] | (rw [sumI, tC, if_neg c_26]; simp)]
      exact ih (tq + 1) (by omega)
    ·
      refine xg_iload_n (pc := 29) dX1_taxOf_29 rfl ?_
      refine xg_aload_n (pc := 30) dX1_taxOf_30 rfl ?_
      refine xg_get (pc := 31) dX1_taxOf_31 flX1_11 (hp_lake hL) rfl ?_
      refine xg_iload_n (pc := 34) dX1_taxOf_34 rfl ?_
      refine xg_aald (pc := 35) (r := 3 + 16 * L + tq) tq dX1_taxOf_35 (hp_tarr hL) (by decide) rfl (by omega) (by decide) (if_pos (by omega)) ?_
      refine xg_cvI (pc := 36) (h1 := hp (va_up lk L f) o mf wf q) (x := txd (f (5 + 5 * tq)) (f (5 + 5 * tq + 4))) (M' := mX5_taxed) dX1_taxOf_36 lkX1_90 mcX5_taxed (hp_thing hL (by omega)) rfl (ev_X5_taxed (i := tq) hL (by omega)) rfl rfl (Nat.le_of_ble_eq_true rfl) ?_
      refine xg_iadd (pc := 39) dX1_taxOf_39 ?_
      refine xg_istore_n (pc := 40) (ls' := [some (.ref (1 + 16 * L)), some (.int c), some (.int ((sumI (tC f c) tq) + (txd (f (5 + 5 * tq)) (f (5 + 5 * tq + 4))))), some (.int (nI tq))]) dX1_taxOf_40 (by decide) rfl ?_
      refine xg_iinc (pc := 41) (y := nI (tq + 1)) (ls' := [some (.ref (1 + 16 * L)), some (.int c), some (.int ((sumI (tC f c) tq) + (txd (f (5 + 5 * tq)) (f (5 + 5 * tq + 4))))), some (.int (nI (tq + 1)))]) dX1_taxOf_41 rfl (xinc _) (by decide) rfl ?_
      refine xg_goto (pc := 44) (tgt := 4) dX1_taxOf_44 (by decide) ?_
      rw [show ((sumI (tC f c) tq) + (txd (f (5 + 5 * tq)) (f (5 + 5 * tq + 4))) : Int32) = sumI (tC f c) (tq + 1) from by first | rw [sumI, tC, if_pos c_26] | (rw [sumI, tC, if_neg c_26]; simp)]
      exact ih (tq + 1) (by omega)
set_option maxRecDepth 100000 in
theorem ev_X1_taxOf {c : Int32} (hL : L < 3) (ok : okN f) : xDv X false (d + 3) mX1_taxOf [.ref (1 + 16 * L), .int c] (hp (va_up lk L f) o mf wf q) [.int (sumI (tC f c) (nT f))] (hp (va_up lk L f) o mf wf q) := by
  refine xDv.of (ls := [some (.ref (1 + 16 * L)), some (.int c), none, none]) mcX1_taxOf.1.2.2.2.2 (Nat.le_of_ble_eq_true rfl) rfl ?_
  refine xg_iconst (v := 0) (pc := 0) dX1_taxOf_0 (by decide) ?_
  refine xg_istore_n (pc := 1) (ls' := [some (.ref (1 + 16 * L)), some (.int c), some (.int 0), none]) dX1_taxOf_1 (by decide) rfl ?_
  refine xg_iconst (v := 0) (pc := 2) dX1_taxOf_2 (by decide) ?_
  refine xg_istore_n (pc := 3) (ls' := [some (.ref (1 + 16 * L)), some (.int c), some (.int 0), some (.int 0)]) dX1_taxOf_3 (by decide) rfl ?_
  exact lp_X1_taxOf hL ok (nT f) 0 (by omega)
set_option maxRecDepth 100000 in
theorem lp_X1_boatsAt {c : Int32} (hL : L < 3) (ok : okN f)  : ∀ (k tq : Nat), tq + k = nB f → xGo X false (d + 0) 0 0 mX1_boatsAt 4 [some (.ref (1 + 16 * L)), some (.int c), some (.int (orI (bA f c) tq)), some (.int (nI tq))] [] (hp (va_up lk L f) o mf wf q) (fun v h' => v = [.int (orI (bA f c) (nB f))] ∧ h' = hp (va_up lk L f) o mf wf q) := by
  intro k
  induction k with
  | zero =>
    intro tq ht
    have h5 := ok.2.2.2
    have etq : tq = nB f := by omega
    subst etq
    refine xg_iload_n (pc := 4) dX1_boatsAt_4 rfl ?_
    refine xg_aload_n (pc := 5) dX1_boatsAt_5 rfl ?_
    refine xg_get (pc := 6) dX1_boatsAt_6 flX1_38 (hp_lake hL) rfl ?_
    refine xg_eq ok.2.2.1 ?_
    refine xg_icmp_ge (pc := 9) (tgt := 37) dX1_boatsAt_9 (by decide) (fun c_9 => ?_) (fun c_9 => absurd c_9 (fun q => q (nI_le (by omega) (by omega))))
    refine xg_iload_n (pc := 37) dX1_boatsAt_37 rfl ?_
    exact xg_iret (pc := 38) dX1_boatsAt_38 rfl (⟨by rfl, rfl⟩)
  | succ k ih =>
    intro tq ht
    have h5 := ok.2.2.2
    refine xg_iload_n (pc := 4) dX1_boatsAt_4 rfl ?_
    refine xg_aload_n (pc := 5) dX1_boatsAt_5 rfl ?_
    refine xg_get (pc := 6) dX1_boatsAt_6 flX1_38 (hp_lake hL) rfl ?_
    refine xg_eq ok.2.2.1 ?_
    refine xg_icmp_ge (pc := 9) (tgt := 37) dX1_boatsAt_9 (by decide) (fun c_9 => absurd c_9 (nI_ge (by omega) (by omega))) (fun c_9 => ?_)
    refine xg_aload_n (pc := 12) dX1_boatsAt_12 rfl ?_
    refine xg_get (pc := 13) dX1_boatsAt_13 flX1_20 (hp_lake hL) rfl ?_
    refine xg_iload_n (pc := 16) dX1_boatsAt_16 rfl ?_
    refine xg_aald (pc := 17) (r := 12 + 16 * L + tq) tq dX1_boatsAt_17 (hp_barr hL) (by decide) rfl (by omega) (by decide) (if_pos (by omega)) ?_
    refine xg_get (pc := 18) dX1_boatsAt_18 flX1_60 (hp_boat hL (by omega)) rfl ?_
    refine xg_iload_n (pc := 21) dX1_boatsAt_21 rfl ?_
    refine xg_icmp_ne (pc := 22) (tgt := 31) dX1_boatsAt_22 (by decide) (fun c_22 => ?_) (fun c_22 => ?_)
    ·
      refine xg_iinc (pc := 31) (y := nI (tq + 1)) (ls' := [some (.ref (1 + 16 * L)), some (.int c), some (.int (orI (bA f c) tq)), some (.int (nI (tq + 1)))]) dX1_boatsAt_31 rfl (xinc _) (by decide) rfl ?_
      refine xg_goto (pc := 34) (tgt := 4) dX1_boatsAt_34 (by decide) ?_
      rw [show (orI (bA f c) tq : Int32) = orI (bA f c) (tq + 1) from by first | rw [orI, bA, if_pos c_22] | (rw [orI, bA, if_neg c_22]; simp)]
      exact ih (tq + 1) (by omega)
    ·
      refine xg_iload_n (pc := 25) dX1_boatsAt_25 rfl ?_
      refine xg_iconst (v := 1) (pc := 26) dX1_boatsAt_26 (by decide) ?_
      refine xg_iload_n (pc := 27) dX1_boatsAt_27 rfl ?_
      refine xg_ishl (pc := 28) dX1_boatsAt_28 ?_
      refine xg_ior (pc := 29) dX1_boatsAt_29 ?_
      refine xg_istore_n (pc := 30) (ls' := [some (.ref (1 + 16 * L)), some (.int c), some (.int ((orI (bA f c) tq) ||| (1 <<< ((nI tq) &&& 31)))), some (.int (nI tq))]) dX1_boatsAt_30 (by decide) rfl ?_
      refine xg_iinc (pc := 31) (y := nI (tq + 1)) (ls' := [some (.ref (1 + 16 * L)), some (.int c), some (.int ((orI (bA f c) tq) ||| (1 <<< ((nI tq) &&& 31)))), some (.int (nI (tq + 1)))]) dX1_boatsAt_31 rfl (xinc _) (by decide) rfl ?_
      refine xg_goto (pc := 34) (tgt := 4) dX1_boatsAt_34 (by decide) ?_
      rw [show ((orI (bA f c) tq) ||| (1 <<< ((nI tq) &&& 31)) : Int32) = orI (bA f c) (tq + 1) from by first | rw [orI, bA, if_pos c_22] | (rw [orI, bA, if_neg c_22]; simp)]
      exact ih (tq + 1) (by omega)
set_option maxRecDepth 100000 in
theorem ev_X1_boatsAt {c : Int32} (hL : L < 3) (ok : okN f) : xDv X false (d + 0) mX1_boatsAt [.ref (1 + 16 * L), .int c] (hp (va_up lk L f) o mf wf q) [.int (orI (bA f c) (nB f))] (hp (va_up lk L f) o mf wf q) := by
  refine xDv.of (ls := [some (.ref (1 + 16 * L)), some (.int c), none, none]) mcX1_boatsAt.1.2.2.2.2 (Nat.le_of_ble_eq_true rfl) rfl ?_
  refine xg_iconst (v := 0) (pc := 0) dX1_boatsAt_0 (by decide) ?_
  refine xg_istore_n (pc := 1) (ls' := [some (.ref (1 + 16 * L)), some (.int c), some (.int 0), none]) dX1_boatsAt_1 (by decide) rfl ?_
  refine xg_iconst (v := 0) (pc := 2) dX1_boatsAt_2 (by decide) ?_
  refine xg_istore_n (pc := 3) (ls' := [some (.ref (1 + 16 * L)), some (.int c), some (.int 0), some (.int 0)]) dX1_boatsAt_3 (by decide) rfl ?_
  exact lp_X1_boatsAt hL ok (nB f) 0 (by omega)
set_option maxRecDepth 100000 in
theorem lp_X1_coinsOfAll  (hL : L < 3) (ok : okN f)  : ∀ (k tq : Nat), tq + k = nB f → xGo X false (d + 0) 0 0 mX1_coinsOfAll 4 [some (.ref (1 + 16 * L)), some (.int (sumI (sB f 3) tq)), some (.int (nI tq))] [] (hp (va_up lk L f) o mf wf q) (fun v h' => v = [.int (sumI (sB f 3) (nB f))] ∧ h' = hp (va_up lk L f) o mf wf q) := by
  intro k
  induction k with
  | zero =>
    intro tq ht
    have h5 := ok.2.2.2
    have etq : tq = nB f := by omega
    subst etq
    refine xg_iload_n (pc := 4) dX1_coinsOfAll_4 rfl ?_
    refine xg_aload_n (pc := 5) dX1_coinsOfAll_5 rfl ?_
    refine xg_get (pc := 6) dX1_coinsOfAll_6 flX1_38 (hp_lake hL) rfl ?_
    refine xg_eq ok.2.2.1 ?_
    refine xg_icmp_ge (pc := 9) (tgt := 30) dX1_coinsOfAll_9 (by decide) (fun c_9 => ?_) (fun c_9 => absurd c_9 (fun q => q (nI_le (by omega) (by omega))))
    refine xg_iload_n (pc := 30) dX1_coinsOfAll_30 rfl ?_
    exact xg_iret (pc := 31) dX1_coinsOfAll_31 rfl (⟨by rfl, rfl⟩)
  | succ k ih =>
    intro tq ht
    have h5 := ok.2.2.2
    refine xg_iload_n (pc := 4) dX1_coinsOfAll_4 rfl ?_
    refine xg_aload_n (pc := 5) dX1_coinsOfAll_5 rfl ?_
    refine xg_get (pc := 6) dX1_coinsOfAll_6 flX1_38 (hp_lake hL) rfl ?_
    refine xg_eq ok.2.2.1 ?_
    refine xg_icmp_ge (pc := 9) (tgt := 30) dX1_coinsOfAll_9 (by decide) (fun c_9 => absurd c_9 (nI_ge (by omega) (by omega))) (fun c_9 => ?_)
    refine xg_iload_n (pc := 12) dX1_coinsOfAll_12 rfl ?_
    refine xg_aload_n (pc := 13) dX1_coinsOfAll_13 rfl ?_
    refine xg_get (pc := 14) dX1_coinsOfAll_14 flX1_20 (hp_lake hL) rfl ?_
    refine xg_iload_n (pc := 17) dX1_coinsOfAll_17 rfl ?_
    refine xg_aald (pc := 18) (r := 12 + 16 * L + tq) tq dX1_coinsOfAll_18 (hp_barr hL) (by decide) rfl (by omega) (by decide) (if_pos (by omega)) ?_
    refine xg_get (pc := 19) dX1_coinsOfAll_19 flX1_69 (hp_boat hL (by omega)) rfl ?_
    refine xg_iadd (pc := 22) dX1_coinsOfAll_22 ?_
    refine xg_istore_n (pc := 23) (ls' := [some (.ref (1 + 16 * L)), some (.int ((sumI (sB f 3) tq) + (f (45 + 4 * tq + 3)))), some (.int (nI tq))]) dX1_coinsOfAll_23 (by decide) rfl ?_
    refine xg_iinc (pc := 24) (y := nI (tq + 1)) (ls' := [some (.ref (1 + 16 * L)), some (.int ((sumI (sB f 3) tq) + (f (45 + 4 * tq + 3)))), some (.int (nI (tq + 1)))]) dX1_coinsOfAll_24 rfl (xinc _) (by decide) rfl ?_
    refine xg_goto (pc := 27) (tgt := 4) dX1_coinsOfAll_27 (by decide) ?_
    rw [show ((sumI (sB f 3) tq) + (f (45 + 4 * tq + 3)) : Int32) = sumI (sB f 3) (tq + 1) from by rw [sumI, sB]]
    exact ih (tq + 1) (by omega)
set_option maxRecDepth 100000 in
theorem ev_X1_coinsOfAll  (hL : L < 3) (ok : okN f) : xDv X false (d + 0) mX1_coinsOfAll [.ref (1 + 16 * L)] (hp (va_up lk L f) o mf wf q) [.int (sumI (sB f 3) (nB f))] (hp (va_up lk L f) o mf wf q) := by
  refine xDv.of (ls := [some (.ref (1 + 16 * L)), none, none]) mcX1_coinsOfAll.1.2.2.2.2 (Nat.le_of_ble_eq_true rfl) rfl ?_
  refine xg_iconst (v := 0) (pc := 0) dX1_coinsOfAll_0 (by decide) ?_
  refine xg_istore_n (pc := 1) (ls' := [some (.ref (1 + 16 * L)), some (.int 0), none]) dX1_coinsOfAll_1 (by decide) rfl ?_
  refine xg_iconst (v := 0) (pc := 2) dX1_coinsOfAll_2 (by decide) ?_
  refine xg_istore_n (pc := 3) (ls' := [some (.ref (1 + 16 * L)), some (.int 0), some (.int 0)]) dX1_coinsOfAll_3 (by decide) rfl ?_
  exact lp_X1_coinsOfAll hL ok (nB f) 0 (by omega)
set_option maxRecDepth 100000 in
theorem lp_X1_holdOfAll  (hL : L < 3) (ok : okN f)  : ∀ (k tq : Nat), tq + k = nB f → xGo X false (d + 0) 0 0 mX1_holdOfAll 4 [some (.ref (1 + 16 * L)), some (.int (sumI (sB f 2) tq)), some (.int (nI tq))] [] (hp (va_up lk L f) o mf wf q) (fun v h' => v = [.int (sumI (sB f 2) (nB f))] ∧ h' = hp (va_up lk L f) o mf wf q) := by
  intro k
  induction k with
  | zero =>
    intro tq ht
    have h5 := ok.2.2.2
    have etq : tq = nB f := by omega
    subst etq
    refine xg_iload_n (pc := 4) dX1_holdOfAll_4 rfl ?_
    refine xg_aload_n (pc := 5) dX1_holdOfAll_5 rfl ?_
    refine xg_get (pc := 6) dX1_holdOfAll_6 flX1_38 (hp_lake hL) rfl ?_
    refine xg_eq ok.2.2.1 ?_
    refine xg_icmp_ge (pc := 9) (tgt := 30) dX1_holdOfAll_9 (by decide) (fun c_9 => ?_) (fun c_9 => absurd c_9 (fun q => q (nI_le (by omega) (by omega))))
    refine xg_iload_n (pc := 30) dX1_holdOfAll_30 rfl ?_
    exact xg_iret (pc := 31) dX1_holdOfAll_31 rfl (⟨by rfl, rfl⟩)
  | succ k ih =>
    intro tq ht
    have h5 := ok.2.2.2
    refine xg_iload_n (pc := 4) dX1_holdOfAll_4 rfl ?_
    refine xg_aload_n (pc := 5) dX1_holdOfAll_5 rfl ?_
    refine xg_get (pc := 6) dX1_holdOfAll_6 flX1_38 (hp_lake hL) rfl ?_
    refine xg_eq ok.2.2.1 ?_
    refine xg_icmp_ge (pc := 9) (tgt := 30) dX1_holdOfAll_9 (by decide) (fun c_9 => absurd c_9 (nI_ge (by omega) (by omega))) (fun c_9 => ?_)
    refine xg_iload_n (pc := 12) dX1_holdOfAll_12 rfl ?_
    refine xg_aload_n (pc := 13) dX1_holdOfAll_13 rfl ?_
    refine xg_get (pc := 14) dX1_holdOfAll_14 flX1_20 (hp_lake hL) rfl ?_
    refine xg_iload_n (pc := 17) dX1_holdOfAll_17 rfl ?_
    refine xg_aald (pc := 18) (r := 12 + 16 * L + tq) tq dX1_holdOfAll_18 (hp_barr hL) (by decide) rfl (by omega) (by decide) (if_pos (by omega)) ?_
    refine xg_get (pc := 19) dX1_holdOfAll_19 flX1_66 (hp_boat hL (by omega)) rfl ?_
    refine xg_iadd (pc := 22) dX1_holdOfAll_22 ?_
    refine xg_istore_n (pc := 23) (ls' := [some (.ref (1 + 16 * L)), some (.int ((sumI (sB f 2) tq) + (f (45 + 4 * tq + 2)))), some (.int (nI tq))]) dX1_holdOfAll_23 (by decide) rfl ?_
    refine xg_iinc (pc := 24) (y := nI (tq + 1)) (ls' := [some (.ref (1 + 16 * L)), some (.int ((sumI (sB f 2) tq) + (f (45 + 4 * tq + 2)))), some (.int (nI (tq + 1)))]) dX1_holdOfAll_24 rfl (xinc _) (by decide) rfl ?_
    refine xg_goto (pc := 27) (tgt := 4) dX1_holdOfAll_27 (by decide) ?_
    rw [show ((sumI (sB f 2) tq) + (f (45 + 4 * tq + 2)) : Int32) = sumI (sB f 2) (tq + 1) from by rw [sumI, sB]]
    exact ih (tq + 1) (by omega)
set_option maxRecDepth 100000 in
theorem ev_X1_holdOfAll  (hL : L < 3) (ok : okN f) : xDv X false (d + 0) mX1_holdOfAll [.ref (1 + 16 * L)] (hp (va_up lk L f) o mf wf q) [.int (sumI (sB f 2) (nB f))] (hp (va_up lk L f) o mf wf q) := by
  refine xDv.of (ls := [some (.ref (1 + 16 * L)), none, none]) mcX1_holdOfAll.1.2.2.2.2 (Nat.le_of_ble_eq_true rfl) rfl ?_
  refine xg_iconst (v := 0) (pc := 0) dX1_holdOfAll_0 (by decide) ?_
  refine xg_istore_n (pc := 1) (ls' := [some (.ref (1 + 16 * L)), some (.int 0), none]) dX1_holdOfAll_1 (by decide) rfl ?_
  refine xg_iconst (v := 0) (pc := 2) dX1_holdOfAll_2 (by decide) ?_
  refine xg_istore_n (pc := 3) (ls' := [some (.ref (1 + 16 * L)), some (.int 0), some (.int 0)]) dX1_holdOfAll_3 (by decide) rfl ?_
  exact lp_X1_holdOfAll hL ok (nB f) 0 (by omega)
set_option maxRecDepth 100000 in
theorem lp_X1_lightOfAll  (hL : L < 3) (ok : okN f)  : ∀ (k tq : Nat), tq + k = nT f → xGo X false (d + 0) 0 0 mX1_lightOfAll 4 [some (.ref (1 + 16 * L)), some (.int (sumI (lA f) tq)), some (.int (nI tq))] [] (hp (va_up lk L f) o mf wf q) (fun v h' => v = [.int (sumI (lA f) (nT f))] ∧ h' = hp (va_up lk L f) o mf wf q) := by
  intro k
  induction k with
  | zero =>
    intro tq ht
    have h8 := ok.2.1
    have etq : tq = nT f := by omega
    subst etq
    refine xg_iload_n (pc := 4) dX1_lightOfAll_4 rfl ?_
    refine xg_aload_n (pc := 5) dX1_lightOfAll_5 rfl ?_
    refine xg_get (pc := 6) dX1_lightOfAll_6 flX1_35 (hp_lake hL) rfl ?_
    refine xg_eq ok.1 ?_
    refine xg_icmp_ge (pc := 9) (tgt := 30) dX1_lightOfAll_9 (by decide) (fun c_9 => ?_) (fun c_9 => absurd c_9 (fun q => q (nI_le (by omega) (by omega))))
    refine xg_iload_n (pc := 30) dX1_lightOfAll_30 rfl ?_
    exact xg_iret (pc := 31) dX1_lightOfAll_31 rfl (⟨by rfl, rfl⟩)
  | succ k ih =>
    intro tq ht
    have h8 := ok.2.1
    refine xg_iload_n (pc := 4) dX1_lightOfAll_4 rfl ?_
    refine xg_aload_n (pc := 5) dX1_lightOfAll_5 rfl ?_
    refine xg_get (pc := 6) dX1_lightOfAll_6 flX1_35 (hp_lake hL) rfl ?_
    refine xg_eq ok.1 ?_
    refine xg_icmp_ge (pc := 9) (tgt := 30) dX1_lightOfAll_9 (by decide) (fun c_9 => absurd c_9 (nI_ge (by omega) (by omega))) (fun c_9 => ?_)
    refine xg_iload_n (pc := 12) dX1_lightOfAll_12 rfl ?_
    refine xg_aload_n (pc := 13) dX1_lightOfAll_13 rfl ?_
    refine xg_get (pc := 14) dX1_lightOfAll_14 flX1_11 (hp_lake hL) rfl ?_
    refine xg_iload_n (pc := 17) dX1_lightOfAll_17 rfl ?_
    refine xg_aald (pc := 18) (r := 3 + 16 * L + tq) tq dX1_lightOfAll_18 (hp_tarr hL) (by decide) rfl (by omega) (by decide) (if_pos (by omega)) ?_
    refine xg_get (pc := 19) dX1_lightOfAll_19 flX1_50 (hp_thing hL (by omega)) rfl ?_
    refine xg_iadd (pc := 22) dX1_lightOfAll_22 ?_
    refine xg_istore_n (pc := 23) (ls' := [some (.ref (1 + 16 * L)), some (.int ((sumI (lA f) tq) + (f (5 + 5 * tq + 3)))), some (.int (nI tq))]) dX1_lightOfAll_23 (by decide) rfl ?_
    refine xg_iinc (pc := 24) (y := nI (tq + 1)) (ls' := [some (.ref (1 + 16 * L)), some (.int ((sumI (lA f) tq) + (f (5 + 5 * tq + 3)))), some (.int (nI (tq + 1)))]) dX1_lightOfAll_24 rfl (xinc _) (by decide) rfl ?_
    refine xg_goto (pc := 27) (tgt := 4) dX1_lightOfAll_27 (by decide) ?_
    rw [show ((sumI (lA f) tq) + (f (5 + 5 * tq + 3)) : Int32) = sumI (lA f) (tq + 1) from by rw [sumI, lA]]
    exact ih (tq + 1) (by omega)
set_option maxRecDepth 100000 in
theorem ev_X1_lightOfAll  (hL : L < 3) (ok : okN f) : xDv X false (d + 0) mX1_lightOfAll [.ref (1 + 16 * L)] (hp (va_up lk L f) o mf wf q) [.int (sumI (lA f) (nT f))] (hp (va_up lk L f) o mf wf q) := by
  refine xDv.of (ls := [some (.ref (1 + 16 * L)), none, none]) mcX1_lightOfAll.1.2.2.2.2 (Nat.le_of_ble_eq_true rfl) rfl ?_
  refine xg_iconst (v := 0) (pc := 0) dX1_lightOfAll_0 (by decide) ?_
  refine xg_istore_n (pc := 1) (ls' := [some (.ref (1 + 16 * L)), some (.int 0), none]) dX1_lightOfAll_1 (by decide) rfl ?_
  refine xg_iconst (v := 0) (pc := 2) dX1_lightOfAll_2 (by decide) ?_
  refine xg_istore_n (pc := 3) (ls' := [some (.ref (1 + 16 * L)), some (.int 0), some (.int 0)]) dX1_lightOfAll_3 (by decide) rfl ?_
  exact lp_X1_lightOfAll hL ok (nT f) 0 (by omega)
set_option maxRecDepth 100000 in
theorem lp_X1_darkThings  (hL : L < 3) (ok : okN f)  : ∀ (k tq : Nat), tq + k = nT f → xGo X false (d + 0) 0 0 mX1_darkThings 4 [some (.ref (1 + 16 * L)), some (.int (orI (dA f) tq)), some (.int (nI tq))] [] (hp (va_up lk L f) o mf wf q) (fun v h' => v = [.int (orI (dA f) (nT f))] ∧ h' = hp (va_up lk L f) o mf wf q) := by
  intro k
  induction k with
  | zero =>
    intro tq ht
    have h8 := ok.2.1
    have etq : tq = nT f := by omega
    subst etq
    refine xg_iload_n (pc := 4) dX1_darkThings_4 rfl ?_
    refine xg_aload_n (pc := 5) dX1_darkThings_5 rfl ?_
    refine xg_get (pc := 6) dX1_darkThings_6 flX1_35 (hp_lake hL) rfl ?_
    refine xg_eq ok.1 ?_
    refine xg_icmp_ge (pc := 9) (tgt := 36) dX1_darkThings_9 (by decide) (fun c_9 => ?_) (fun c_9 => absurd c_9 (fun q => q (nI_le (by omega) (by omega))))
    refine xg_iload_n (pc := 36) dX1_darkThings_36 rfl ?_
    exact xg_iret (pc := 37) dX1_darkThings_37 rfl (⟨by rfl, rfl⟩)
  | succ k ih =>
    intro tq ht
    have h8 := ok.2.1
    refine xg_iload_n (pc := 4) dX1_darkThings_4 rfl ?_
    refine xg_aload_n (pc := 5) dX1_darkThings_5 rfl ?_
    refine xg_get (pc := 6) dX1_darkThings_6 flX1_35 (hp_lake hL) rfl ?_
    refine xg_eq ok.1 ?_
    refine xg_icmp_ge (pc := 9) (tgt := 36) dX1_darkThings_9 (by decide) (fun c_9 => absurd c_9 (nI_ge (by omega) (by omega))) (fun c_9 => ?_)
    refine xg_aload_n (pc := 12) dX1_darkThings_12 rfl ?_
    refine xg_get (pc := 13) dX1_darkThings_13 flX1_11 (hp_lake hL) rfl ?_
    refine xg_iload_n (pc := 16) dX1_darkThings_16 rfl ?_
    refine xg_aald (pc := 17) (r := 3 + 16 * L + tq) tq dX1_darkThings_17 (hp_tarr hL) (by decide) rfl (by omega) (by decide) (if_pos (by omega)) ?_
    refine xg_get (pc := 18) dX1_darkThings_18 flX1_50 (hp_thing hL (by omega)) rfl ?_
    refine xg_if_ne (pc := 21) (tgt := 30) dX1_darkThings_21 (by decide) (fun c_21 => ?_) (fun c_21 => ?_)
    ·
      refine xg_iinc (pc := 30) (y := nI (tq + 1)) (ls' := [some (.ref (1 + 16 * L)), some (.int (orI (dA f) tq)), some (.int (nI (tq + 1)))]) dX1_darkThings_30 rfl (xinc _) (by decide) rfl ?_
      refine xg_goto (pc := 33) (tgt := 4) dX1_darkThings_33 (by decide) ?_
      rw [show (orI (dA f) tq : Int32) = orI (dA f) (tq + 1) from by first | rw [orI, dA, if_pos c_21] | (rw [orI, dA, if_neg c_21]; simp)]
      exact ih (tq + 1) (by omega)
    ·
      refine xg_iload_n (pc := 24) dX1_darkThings_24 rfl ?_
      refine xg_iconst (v := 1) (pc := 25) dX1_darkThings_25 (by decide) ?_
      refine xg_iload_n (pc := 26) dX1_darkThings_26 rfl ?_
      refine xg_ishl (pc := 27) dX1_darkThings_27 ?_
      refine xg_ior (pc := 28) dX1_darkThings_28 ?_
      refine xg_istore_n (pc := 29) (ls' := [some (.ref (1 + 16 * L)), some (.int ((orI (dA f) tq) ||| (1 <<< ((nI tq) &&& 31)))), some (.int (nI tq))]) dX1_darkThings_29 (by decide) rfl ?_
      refine xg_iinc (pc := 30) (y := nI (tq + 1)) (ls' := [some (.ref (1 + 16 * L)), some (.int ((orI (dA f) tq) ||| (1 <<< ((nI tq) &&& 31)))), some (.int (nI (tq + 1)))]) dX1_darkThings_30 rfl (xinc _) (by decide) rfl ?_
      refine xg_goto (pc := 33) (tgt := 4) dX1_darkThings_33 (by decide) ?_
      rw [show ((orI (dA f) tq) ||| (1 <<< ((nI tq) &&& 31)) : Int32) = orI (dA f) (tq + 1) from by first | rw [orI, dA, if_pos c_21] | (rw [orI, dA, if_neg c_21]; simp)]
      exact ih (tq + 1) (by omega)
set_option maxRecDepth 100000 in
theorem ev_X1_darkThings  (hL : L < 3) (ok : okN f) : xDv X false (d + 0) mX1_darkThings [.ref (1 + 16 * L)] (hp (va_up lk L f) o mf wf q) [.int (orI (dA f) (nT f))] (hp (va_up lk L f) o mf wf q) := by
  refine xDv.of (ls := [some (.ref (1 + 16 * L)), none, none]) mcX1_darkThings.1.2.2.2.2 (Nat.le_of_ble_eq_true rfl) rfl ?_
  refine xg_iconst (v := 0) (pc := 0) dX1_darkThings_0 (by decide) ?_
  refine xg_istore_n (pc := 1) (ls' := [some (.ref (1 + 16 * L)), some (.int 0), none]) dX1_darkThings_1 (by decide) rfl ?_
  refine xg_iconst (v := 0) (pc := 2) dX1_darkThings_2 (by decide) ?_
  refine xg_istore_n (pc := 3) (ls' := [some (.ref (1 + 16 * L)), some (.int 0), some (.int 0)]) dX1_darkThings_3 (by decide) rfl ?_
  exact lp_X1_darkThings hL ok (nT f) 0 (by omega)
set_option maxRecDepth 100000 in
theorem lp_X1_glintOfAll  (hL : L < 3) (ok : okN f)  : ∀ (k tq : Nat), tq + k = 48 → xGo X false (d + 4) 0 0 mX1_glintOfAll 4 [some (.ref (1 + 16 * L)), some (.int (sumI (gAC f) tq)), some (.int (nI tq))] [] (hp (va_up lk L f) o mf wf q) (fun v h' => v = [.int (sumI (gAC f) 48)] ∧ h' = hp (va_up lk L f) o mf wf q) := by
  intro k
  induction k with
  | zero =>
    intro tq ht
    have etq : tq = 48 := by omega
    subst etq
    refine xg_iload_n (pc := 4) dX1_glintOfAll_4 rfl ?_
    refine xg_bipush (v := 48) (pc := 5) dX1_glintOfAll_5 (by decide) ?_
    refine xg_icmp_ge (pc := 7) (tgt := 24) dX1_glintOfAll_7 (by decide) (fun c_7 => ?_) (fun c_7 => absurd c_7 (by decide))
    refine xg_iload_n (pc := 24) dX1_glintOfAll_24 rfl ?_
    exact xg_iret (pc := 25) dX1_glintOfAll_25 rfl (⟨by rfl, rfl⟩)
  | succ k ih =>
    intro tq ht
    refine xg_iload_n (pc := 4) dX1_glintOfAll_4 rfl ?_
    refine xg_bipush (v := 48) (pc := 5) dX1_glintOfAll_5 (by decide) ?_
    refine xg_icmp_ge (pc := 7) (tgt := 24) dX1_glintOfAll_7 (by decide) (fun c_7 => absurd c_7 (nI_ge (b := 48) (by omega) (by omega))) (fun c_7 => ?_)
    refine xg_iload_n (pc := 10) dX1_glintOfAll_10 rfl ?_
    refine xg_aload_n (pc := 11) dX1_glintOfAll_11 rfl ?_
    refine xg_iload_n (pc := 12) dX1_glintOfAll_12 rfl ?_
    refine xg_cvI (pc := 13) (h1 := hp (va_up lk L f) o mf wf q) (x := glC f (nI tq)) (M' := mX1_glintOf) dX1_glintOfAll_13 lkX1_87 mcX1_glintOf (hp_lake hL) rfl (ev_X1_glintOf hL ok (cell_of (by omega))) rfl rfl (Nat.le_of_ble_eq_true rfl) ?_
    refine xg_iadd (pc := 16) dX1_glintOfAll_16 ?_
    refine xg_istore_n (pc := 17) (ls' := [some (.ref (1 + 16 * L)), some (.int ((sumI (gAC f) tq) + (glC f (nI tq)))), some (.int (nI tq))]) dX1_glintOfAll_17 (by decide) rfl ?_
    refine xg_iinc (pc := 18) (y := nI (tq + 1)) (ls' := [some (.ref (1 + 16 * L)), some (.int ((sumI (gAC f) tq) + (glC f (nI tq)))), some (.int (nI (tq + 1)))]) dX1_glintOfAll_18 rfl (xinc _) (by decide) rfl ?_
    refine xg_goto (pc := 21) (tgt := 4) dX1_glintOfAll_21 (by decide) ?_
    rw [show ((sumI (gAC f) tq) + (glC f (nI tq)) : Int32) = sumI (gAC f) (tq + 1) from by rw [sumI, gAC]]
    exact ih (tq + 1) (by omega)
set_option maxRecDepth 100000 in
theorem ev_X1_glintOfAll  (hL : L < 3) (ok : okN f) : xDv X false (d + 4) mX1_glintOfAll [.ref (1 + 16 * L)] (hp (va_up lk L f) o mf wf q) [.int (sumI (gAC f) 48)] (hp (va_up lk L f) o mf wf q) := by
  refine xDv.of (ls := [some (.ref (1 + 16 * L)), none, none]) mcX1_glintOfAll.1.2.2.2.2 (Nat.le_of_ble_eq_true rfl) rfl ?_
  refine xg_iconst (v := 0) (pc := 0) dX1_glintOfAll_0 (by decide) ?_
  refine xg_istore_n (pc := 1) (ls' := [some (.ref (1 + 16 * L)), some (.int 0), none]) dX1_glintOfAll_1 (by decide) rfl ?_
  refine xg_iconst (v := 0) (pc := 2) dX1_glintOfAll_2 (by decide) ?_
  refine xg_istore_n (pc := 3) (ls' := [some (.ref (1 + 16 * L)), some (.int 0), some (.int 0)]) dX1_glintOfAll_3 (by decide) rfl ?_
  exact lp_X1_glintOfAll hL ok 48 0 (by omega)
end
