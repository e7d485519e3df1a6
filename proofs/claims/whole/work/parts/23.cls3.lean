section
variable {X : xS} {d : Nat} {lk : Nat → Nat → Int32} {o : xO} {mf wf : Nat → Int32} {q : xQ} {f : Nat → Int32} {L K : Nat}
set_option maxRecDepth 100000 in
theorem lp_X1_fishWith {c x2 : Int32} {j : Nat} (hL : L < 3) (ok : okN f) (hj : j < 5) (ha : f (45 + 4 * j) = c) : ∀ (k tq : Nat), tq + k = nT f → xGo X false (d + 4) 0 0 mX1_fishWith 43 [some (.ref (1 + 16 * L)), some (.ref (12 + 16 * L + j)), some (.int x2), some (.int (nI tq))] [] (hp (va_up lk L (itF (dimC c) tq f)) o mf wf q) (fun v h' => v = [] ∧ h' = hp (va_up lk L (itF (dimC c) (nT f) f)) o mf wf q) := by
  intro k
  induction k with
  | zero =>
    intro tq ht
    have h8 := ok.2.1
    have smq : sameM f (itF (dimC c) tq f) := .it _ _ (fun j hj g => dimC_s (by omega) g)
    have e3q : itF (dimC c) tq f 3 = nI (nT f) := smq.2.1.trans ok.1
    have eaq : itF (dimC c) tq f (45 + 4 * j) = c := (smq.2.2.2 j hj).trans ha
    have etq : tq = nT f := by omega
    subst etq
    refine xg_iload_n (pc := 43) dX1_fishWith_43 rfl ?_
    refine xg_aload_n (pc := 44) dX1_fishWith_44 rfl ?_
    refine xg_get (pc := 45) dX1_fishWith_45 flX1_35 (hp_lake hL) rfl ?_
    refine xg_eq e3q ?_
    refine xg_icmp_ge (pc := 48) (tgt := 86) dX1_fishWith_48 (by decide) (fun c_48 => ?_) (fun c_48 => absurd c_48 (fun q => q (nI_le (by omega) (by omega))))
    exact xg_ret (pc := 86) dX1_fishWith_86 rfl (⟨rfl, rfl⟩)
  | succ k ih =>
    intro tq ht
    have h8 := ok.2.1
    have smq : sameM f (itF (dimC c) tq f) := .it _ _ (fun j hj g => dimC_s (by omega) g)
    have e3q : itF (dimC c) tq f 3 = nI (nT f) := smq.2.1.trans ok.1
    have eaq : itF (dimC c) tq f (45 + 4 * j) = c := (smq.2.2.2 j hj).trans ha
    refine xg_iload_n (pc := 43) dX1_fishWith_43 rfl ?_
    refine xg_aload_n (pc := 44) dX1_fishWith_44 rfl ?_
    refine xg_get (pc := 45) dX1_fishWith_45 flX1_35 (hp_lake hL) rfl ?_
    refine xg_eq e3q ?_
    refine xg_icmp_ge (pc := 48) (tgt := 86) dX1_fishWith_48 (by decide) (fun c_48 => absurd c_48 (nI_ge (by omega) (by omega))) (fun c_48 => ?_)
    refine xg_aload_n (pc := 51) dX1_fishWith_51 rfl ?_
    refine xg_get (pc := 52) dX1_fishWith_52 flX1_11 (hp_lake hL) rfl ?_
    refine xg_iload_n (pc := 55) dX1_fishWith_55 rfl ?_
    refine xg_aald (pc := 56) (r := 3 + 16 * L + tq) tq dX1_fishWith_56 (hp_tarr hL) (by decide) rfl (by omega) (by decide) (if_pos (by omega)) ?_
    refine xg_aload_n (pc := 57) dX1_fishWith_57 rfl ?_
    refine xg_get (pc := 58) dX1_fishWith_58 flX1_60 (hp_boat hL (by omega)) rfl ?_
    refine xg_eq eaq ?_
    refine xg_aload_n (pc := 61) dX1_fishWith_61 rfl ?_
    refine xg_get (pc := 62) dX1_fishWith_62 flX1_25 (hp_lake hL) rfl ?_
    refine xg_cvI (pc := 65) (h1 := hp (va_up lk L (itF (dimC c) tq f)) o mf wf q) (x := if mirC (itF (dimC c) tq f) tq c then 1 else 0) (M' := mX5_isMirroredIn) dX1_fishWith_65 lkX1_75 mcX5_isMirroredIn (hp_thing hL (by omega)) rfl (ev_X5_isMirroredIn (i := tq) hL (by omega)) rfl rfl (Nat.le_of_ble_eq_true rfl) ?_
    refine xg_bz (pc := 68) (tgt := 80) dX1_fishWith_68 (by decide) (fun c_68 => ?_) (fun c_68 => ?_)
    ·
      refine xg_iinc (pc := 80) (y := nI (tq + 1)) (ls' := [some (.ref (1 + 16 * L)), some (.ref (12 + 16 * L + j)), some (.int x2), some (.int (nI (tq + 1)))]) dX1_fishWith_80 rfl (xinc _) (by decide) rfl ?_
      refine xg_goto (pc := 83) (tgt := 43) dX1_fishWith_83 (by decide) ?_
      refine xg_eqh (h' := hp (va_up lk L (itF (dimC c) (tq + 1) f)) o mf wf q) (by first | rw [itF, dimC, if_pos c_68] | rw [itF, dimC, if_neg c_68]) ?_
      exact ih (tq + 1) (by omega)
    ·
      refine xg_aload_n (pc := 71) dX1_fishWith_71 rfl ?_
      refine xg_get (pc := 72) dX1_fishWith_72 flX1_11 (hp_lake hL) rfl ?_
      refine xg_iload_n (pc := 75) dX1_fishWith_75 rfl ?_
      refine xg_aald (pc := 76) (r := 3 + 16 * L + tq) tq dX1_fishWith_76 (hp_tarr hL) (by decide) rfl (by omega) (by decide) (if_pos (by omega)) ?_
      refine xg_cvV (pc := 77) (h1 := hp (va_up lk L (dm1 tq (itF (dimC c) tq f))) o mf wf q) (M' := mX5_dim) dX1_fishWith_77 lkX1_117 mcX5_dim (hp_thing hL (by omega)) rfl (ev_X5_dim (i := tq) hL (by omega)) rfl rfl (Nat.le_of_ble_eq_true rfl) ?_
      refine xg_iinc (pc := 80) (y := nI (tq + 1)) (ls' := [some (.ref (1 + 16 * L)), some (.ref (12 + 16 * L + j)), some (.int x2), some (.int (nI (tq + 1)))]) dX1_fishWith_80 rfl (xinc _) (by decide) rfl ?_
      refine xg_goto (pc := 83) (tgt := 43) dX1_fishWith_83 (by decide) ?_
      refine xg_eqh (h' := hp (va_up lk L (itF (dimC c) (tq + 1) f)) o mf wf q) (by first | rw [itF, dimC, if_pos c_68] | rw [itF, dimC, if_neg c_68]) ?_
      exact ih (tq + 1) (by omega)
set_option maxRecDepth 100000 in
theorem ev_X1_fishWith {j : Nat} (hL : L < 3) (ok : okM f) (hj : j < nB f) : xDv X false (d + 4) mX1_fishWith [.ref (1 + 16 * L), .ref (12 + 16 * L + j)] (hp (va_up lk L f) o mf wf q) [] (hp (va_up lk L (takC j f)) o mf wf q) := by
  have h5 := ok.1.2.2.2
  refine xDv.of (ls := [some (.ref (1 + 16 * L)), some (.ref (12 + 16 * L + j)), none, none]) mcX1_fishWith.1.2.2.2.2 (Nat.le_of_ble_eq_true rfl) rfl ?_
  refine xg_aload_n (pc := 0) dX1_fishWith_0 rfl ?_
  refine xg_aload_n (pc := 1) dX1_fishWith_1 rfl ?_
  refine xg_aload_n (pc := 2) dX1_fishWith_2 rfl ?_
  refine xg_get (pc := 3) dX1_fishWith_3 flX1_60 (hp_boat hL (by omega)) rfl ?_
  refine xg_cvI (pc := 6) (h1 := hp (va_up lk L f) o mf wf q) (x := glC f (f (45 + 4 * j))) (M' := mX1_glintOf) dX1_fishWith_6 lkX1_87 mcX1_glintOf (hp_lake hL) rfl (ev_X1_glintOf hL ok.1 (ok.2 j hj)) rfl rfl (Nat.le_of_ble_eq_true rfl) ?_
  refine xg_cvI (pc := 9) (h1 := hp (va_up lk L f) o mf wf q) (x := tkC f j) (M' := mX0_takeFrom) dX1_fishWith_9 lkX1_107 mcX0_takeFrom (hp_boat hL (by omega)) rfl (ev_X0_takeFrom (j := j) hL (by omega)) rfl rfl (Nat.le_of_ble_eq_true rfl) ?_
  refine xg_istore_n (pc := 12) (ls' := [some (.ref (1 + 16 * L)), some (.ref (12 + 16 * L + j)), some (.int (tkC f j)), none]) dX1_fishWith_12 (by decide) rfl ?_
  refine xg_iload_n (pc := 13) dX1_fishWith_13 rfl ?_
  refine xg_if_gt (pc := 14) (tgt := 18) dX1_fishWith_14 (by decide) (fun c_14 => ?_) (fun c_14 => ?_)
  ·
    refine xg_aload_n (pc := 18) dX1_fishWith_18 rfl ?_
    refine xg_dup (pc := 19) dX1_fishWith_19 rfl ?_
    refine xg_get (pc := 20) dX1_fishWith_20 flX1_66 (hp_boat hL (by omega)) rfl ?_
    refine xg_iload_n (pc := 23) dX1_fishWith_23 rfl ?_
    refine xg_iadd (pc := 24) dX1_fishWith_24 ?_
    refine xg_puti (pc := 25) (h' := hp (va_up lk L (upd f (45 + 4 * j + 2) ((f (45 + 4 * j + 2)) + (tkC f j)))) o mf wf q) dX1_fishWith_25 flX1_66 (hp_boat hL (by omega)) (Nat.le_of_ble_eq_true rfl) (hs_b hL (c := 2) (by omega) (by decide)) ?_
    refine xg_aload_n (pc := 28) dX1_fishWith_28 rfl ?_
    refine xg_aload_n (pc := 29) dX1_fishWith_29 rfl ?_
    refine xg_aload_n (pc := 30) dX1_fishWith_30 rfl ?_
    refine xg_get (pc := 31) dX1_fishWith_31 flX1_60 (hp_boat hL (by omega)) rfl ?_
    refine xg_eq ((hldC_s f).2.2.2 j (by omega)) ?_
    refine xg_cvI (pc := 34) (h1 := hp (va_up lk L (upd f (45 + 4 * j + 2) ((f (45 + 4 * j + 2)) + (tkC f j)))) o mf wf q) (x := sumI (tC (upd f (45 + 4 * j + 2) ((f (45 + 4 * j + 2)) + (tkC f j))) (f (45 + 4 * j))) (nT (upd f (45 + 4 * j + 2) ((f (45 + 4 * j + 2)) + (tkC f j))))) (M' := mX1_taxOf) dX1_fishWith_34 lkX1_110 mcX1_taxOf (hp_lake hL) rfl (ev_X1_taxOf hL (ok.1.of (hldC_s f).2.1 (hldC_s f).2.2.1)) rfl rfl (Nat.le_of_ble_eq_true rfl) ?_
    refine xg_ineg (pc := 37) dX1_fishWith_37 ?_
    refine xg_cvV (pc := 38) (h1 := hp (va_up lk L (ernC (upd f (45 + 4 * j + 2) ((f (45 + 4 * j + 2)) + (tkC f j))) j (-(sumI (tC (upd f (45 + 4 * j + 2) ((f (45 + 4 * j + 2)) + (tkC f j))) (f (45 + 4 * j))) (nT (upd f (45 + 4 * j + 2) ((f (45 + 4 * j + 2)) + (tkC f j)))))))) o mf wf q) (M' := mX0_earn) dX1_fishWith_38 lkX1_113 mcX0_earn (hp_boat hL (by omega)) rfl (ev_X0_earn (j := j) hL (by omega)) rfl rfl (Nat.le_of_ble_eq_true rfl) ?_
    refine xg_iconst (v := 0) (pc := 41) dX1_fishWith_41 (by decide) ?_
    refine xg_istore_n (pc := 42) (ls' := [some (.ref (1 + 16 * L)), some (.ref (12 + 16 * L + j)), some (.int (tkC f j)), some (.int 0)]) dX1_fishWith_42 (by decide) rfl ?_
    refine xg_mono (fun v h' q => ?_) (lp_X1_fishWith (f := tpC j f) (c := f (45 + 4 * j)) hL (ok.1.of (tpC_s f).2.1 (tpC_s f).2.2.1) (by omega) ((tpC_s f).2.2.2 j (by omega)) (nT (tpC j f)) 0 (by omega))
    rw [takC, if_pos c_14]; exact q
  ·
    exact xg_ret (pc := 17) dX1_fishWith_17 rfl (⟨rfl, by rw [takC, if_neg c_14]⟩)
set_option maxRecDepth 100000 in
theorem lp_pass3a  (hL : L < 3) (ok : okN f) : ∀ (k tq : Nat), tq + k = nT f → xGo X false (d + 5) 0 0 mX1_passHour 75 [some (.ref (1 + 16 * L)), some (.int (nI tq))] [] (hp (va_up lk L (itF brC tq f)) o mf wf q) (fun v h' => v = [] ∧ h' = hp (va_up lk L (h4R (itF brC (nT f) f))) o mf wf q) := by
  intro k
  induction k with
  | zero =>
    intro tq ht
    have h8 := ok.2.1
    have smq : sameM f (itF brC tq f) := .it _ _ (fun j hj g => brC_s (by omega) g)
    have e3q : itF brC tq f 3 = nI (nT f) := smq.2.1.trans ok.1
    have etq : tq = nT f := by omega
    subst etq
    refine xg_iload_n (pc := 75) dX1_passHour_75 rfl ?_
    refine xg_aload_n (pc := 76) dX1_passHour_76 rfl ?_
    refine xg_get (pc := 77) dX1_passHour_77 flX1_35 (hp_lake hL) rfl ?_
    refine xg_eq e3q ?_
    refine xg_icmp_ge (pc := 80) (tgt := 98) dX1_passHour_80 (by decide) (fun c_80 => ?_) (fun c_80 => absurd c_80 (fun q => q (nI_le (by omega) (by omega))))
    refine xg_aload_n (pc := 98) dX1_passHour_98 rfl ?_
    refine xg_dup (pc := 99) dX1_passHour_99 rfl ?_
    refine xg_get (pc := 100) dX1_passHour_100 flX1_25 (hp_lake hL) rfl ?_
    refine xg_iconst (v := 1) (pc := 103) dX1_passHour_103 (by decide) ?_
    refine xg_iadd (pc := 104) dX1_passHour_104 ?_
    refine xg_puti (pc := 105) (h' := hp (va_up lk L (upd (itF brC (nT f) f) 0 (((itF brC (nT f) f) 0) + 1))) o mf wf q) dX1_passHour_105 flX1_25 (hp_lake hL) (Nat.le_of_ble_eq_true rfl) (hs_lk hL (by decide)) ?_
    exact xg_ret (pc := 108) dX1_passHour_108 rfl (⟨rfl, rfl⟩)
  | succ k ih =>
    intro tq ht
    have h8 := ok.2.1
    have smq : sameM f (itF brC tq f) := .it _ _ (fun j hj g => brC_s (by omega) g)
    have e3q : itF brC tq f 3 = nI (nT f) := smq.2.1.trans ok.1
    refine xg_iload_n (pc := 75) dX1_passHour_75 rfl ?_
    refine xg_aload_n (pc := 76) dX1_passHour_76 rfl ?_
    refine xg_get (pc := 77) dX1_passHour_77 flX1_35 (hp_lake hL) rfl ?_
    refine xg_eq e3q ?_
    refine xg_icmp_ge (pc := 80) (tgt := 98) dX1_passHour_80 (by decide) (fun c_80 => absurd c_80 (nI_ge (by omega) (by omega))) (fun c_80 => ?_)
    refine xg_aload_n (pc := 83) dX1_passHour_83 rfl ?_
    refine xg_get (pc := 84) dX1_passHour_84 flX1_11 (hp_lake hL) rfl ?_
    refine xg_iload_n (pc := 87) dX1_passHour_87 rfl ?_
    refine xg_aald (pc := 88) (r := 3 + 16 * L + tq) tq dX1_passHour_88 (hp_tarr hL) (by decide) rfl (by omega) (by decide) (if_pos (by omega)) ?_
    refine xg_cvV (pc := 89) (h1 := hp (va_up lk L (brC tq (itF brC tq f))) o mf wf q) (M' := mX5_brighten) dX1_passHour_89 lkX1_104 mcX5_brighten (hp_thing hL (by omega)) rfl (ev_X5_brighten (i := tq) hL (by omega)) rfl rfl (Nat.le_of_ble_eq_true rfl) ?_
    refine xg_iinc (pc := 92) (y := nI (tq + 1)) (ls' := [some (.ref (1 + 16 * L)), some (.int (nI (tq + 1)))]) dX1_passHour_92 rfl (xinc _) (by decide) rfl ?_
    refine xg_goto (pc := 95) (tgt := 75) dX1_passHour_95 (by decide) ?_
    refine xg_eqh (h' := hp (va_up lk L (itF brC (tq + 1) f)) o mf wf q) rfl ?_
    exact ih (tq + 1) (by omega)
set_option maxRecDepth 100000 in
theorem lp_pass3 {x1 : Option Value} (hL : L < 3) (ok : okN f) : xGo X false (d + 5) 0 0 mX1_passHour 63 [some (.ref (1 + 16 * L)), x1] [] (hp (va_up lk L f) o mf wf q) (fun v h' => v = [] ∧ h' = hp (va_up lk L (h4R (h3C f))) o mf wf q) := by
  refine xg_aload_n (pc := 63) dX1_passHour_63 rfl ?_
  refine xg_get (pc := 64) dX1_passHour_64 flX1_25 (hp_lake hL) rfl ?_
  refine xg_iconst (v := 4) (pc := 67) dX1_passHour_67 (by decide) ?_
  refine xg_irem (pc := 68) dX1_passHour_68 (by decide) ?_
  refine xg_iconst (v := 3) (pc := 69) dX1_passHour_69 (by decide) ?_
  refine xg_icmp_ne (pc := 70) (tgt := 98) dX1_passHour_70 (by decide) (fun c_70 => ?_) (fun c_70 => ?_)
  ·
    refine xg_aload_n (pc := 98) dX1_passHour_98 rfl ?_
    refine xg_dup (pc := 99) dX1_passHour_99 rfl ?_
    refine xg_get (pc := 100) dX1_passHour_100 flX1_25 (hp_lake hL) rfl ?_
    refine xg_iconst (v := 1) (pc := 103) dX1_passHour_103 (by decide) ?_
    refine xg_iadd (pc := 104) dX1_passHour_104 ?_
    refine xg_puti (pc := 105) (h' := hp (va_up lk L (upd f 0 ((f 0) + 1))) o mf wf q) dX1_passHour_105 flX1_25 (hp_lake hL) (Nat.le_of_ble_eq_true rfl) (hs_lk hL (by decide)) ?_
    exact xg_ret (pc := 108) dX1_passHour_108 rfl (⟨rfl, by rw [h3C, if_neg (show ¬ md (f 0) 4 = 3 from c_70)]; rfl⟩)
  ·
    refine xg_iconst (v := 0) (pc := 73) dX1_passHour_73 (by decide) ?_
    refine xg_istore_n (pc := 74) (ls' := [some (.ref (1 + 16 * L)), some (.int 0)]) dX1_passHour_74 (by decide) rfl ?_
    rw [h3C, if_pos (show md (f 0) 4 = 3 from c_70)]
    exact lp_pass3a hL ok (nT f) 0 (by omega)
set_option maxRecDepth 100000 in
theorem lp_pass2a  (hL : L < 3) (ok : okN f) : ∀ (k tq : Nat), tq + k = nB f → xGo X false (d + 5) 0 0 mX1_passHour 40 [some (.ref (1 + 16 * L)), some (.int (nI tq))] [] (hp (va_up lk L (itF slC tq f)) o mf wf q) (fun v h' => v = [] ∧ h' = hp (va_up lk L (h4R (h3C (itF slC (nB f) f)))) o mf wf q) := by
  intro k
  induction k with
  | zero =>
    intro tq ht
    have h5 := ok.2.2.2
    have smq : sameM f (itF slC tq f) := .it _ _ (fun j hj g => slC_s g)
    have e4q : itF slC tq f 4 = nI (nB f) := smq.2.2.1.trans ok.2.2.1
    have etq : tq = nB f := by omega
    subst etq
    refine xg_iload_n (pc := 40) dX1_passHour_40 rfl ?_
    refine xg_aload_n (pc := 41) dX1_passHour_41 rfl ?_
    refine xg_get (pc := 42) dX1_passHour_42 flX1_38 (hp_lake hL) rfl ?_
    refine xg_eq e4q ?_
    refine xg_icmp_ge (pc := 45) (tgt := 63) dX1_passHour_45 (by decide) (fun c_45 => ?_) (fun c_45 => absurd c_45 (fun q => q (nI_le (by omega) (by omega))))
    exact lp_pass3 hL (ok.of smq.2.1 smq.2.2.1)
  | succ k ih =>
    intro tq ht
    have h5 := ok.2.2.2
    have smq : sameM f (itF slC tq f) := .it _ _ (fun j hj g => slC_s g)
    have e4q : itF slC tq f 4 = nI (nB f) := smq.2.2.1.trans ok.2.2.1
    refine xg_iload_n (pc := 40) dX1_passHour_40 rfl ?_
    refine xg_aload_n (pc := 41) dX1_passHour_41 rfl ?_
    refine xg_get (pc := 42) dX1_passHour_42 flX1_38 (hp_lake hL) rfl ?_
    refine xg_eq e4q ?_
    refine xg_icmp_ge (pc := 45) (tgt := 63) dX1_passHour_45 (by decide) (fun c_45 => absurd c_45 (nI_ge (by omega) (by omega))) (fun c_45 => ?_)
    refine xg_aload_n (pc := 48) dX1_passHour_48 rfl ?_
    refine xg_get (pc := 49) dX1_passHour_49 flX1_20 (hp_lake hL) rfl ?_
    refine xg_iload_n (pc := 52) dX1_passHour_52 rfl ?_
    refine xg_aald (pc := 53) (r := 12 + 16 * L + tq) tq dX1_passHour_53 (hp_barr hL) (by decide) rfl (by omega) (by decide) (if_pos (by omega)) ?_
    refine xg_cvV (pc := 54) (h1 := hp (va_up lk L (slC tq (itF slC tq f))) o mf wf q) (M' := mX0_sell) dX1_passHour_54 lkX1_101 mcX0_sell (hp_boat hL (by omega)) rfl (ev_X0_sell (j := tq) hL (by omega)) rfl rfl (Nat.le_of_ble_eq_true rfl) ?_
    refine xg_iinc (pc := 57) (y := nI (tq + 1)) (ls' := [some (.ref (1 + 16 * L)), some (.int (nI (tq + 1)))]) dX1_passHour_57 rfl (xinc _) (by decide) rfl ?_
    refine xg_goto (pc := 60) (tgt := 40) dX1_passHour_60 (by decide) ?_
    refine xg_eqh (h' := hp (va_up lk L (itF slC (tq + 1) f)) o mf wf q) rfl ?_
    exact ih (tq + 1) (by omega)
set_option maxRecDepth 100000 in
theorem lp_pass2 {x1 : Option Value} (hL : L < 3) (ok : okN f) : xGo X false (d + 5) 0 0 mX1_passHour 26 [some (.ref (1 + 16 * L)), x1] [] (hp (va_up lk L f) o mf wf q) (fun v h' => v = [] ∧ h' = hp (va_up lk L (h4R (h3C (h2C f)))) o mf wf q) := by
  refine xg_aload_n (pc := 26) dX1_passHour_26 rfl ?_
  refine xg_get (pc := 27) dX1_passHour_27 flX1_25 (hp_lake hL) rfl ?_
  refine xg_bipush (v := 24) (pc := 30) dX1_passHour_30 (by decide) ?_
  refine xg_irem (pc := 32) dX1_passHour_32 (by decide) ?_
  refine xg_bipush (v := 20) (pc := 33) dX1_passHour_33 (by decide) ?_
  refine xg_icmp_ne (pc := 35) (tgt := 63) dX1_passHour_35 (by decide) (fun c_35 => ?_) (fun c_35 => ?_)
  ·
    rw [h2C, if_neg (show ¬ md (f 0) 24 = 20 from c_35)]
    exact lp_pass3 hL ok
  ·
    refine xg_iconst (v := 0) (pc := 38) dX1_passHour_38 (by decide) ?_
    refine xg_istore_n (pc := 39) (ls' := [some (.ref (1 + 16 * L)), some (.int 0)]) dX1_passHour_39 (by decide) rfl ?_
    rw [h2C, if_pos (show md (f 0) 24 = 20 from c_35)]
    exact lp_pass2a hL ok (nB f) 0 (by omega)
set_option maxRecDepth 100000 in
theorem lp_pass1  (hL : L < 3) (ok : okM f) : ∀ (k tq : Nat), tq + k = nB f → xGo X false (d + 5) 0 0 mX1_passHour 2 [some (.ref (1 + 16 * L)), some (.int (nI tq))] [] (hp (va_up lk L (itF takC tq f)) o mf wf q) (fun v h' => v = [] ∧ h' = hp (va_up lk L (hrC f)) o mf wf q) := by
  intro k
  induction k with
  | zero =>
    intro tq ht
    have h5 := ok.1.2.2.2
    have smq : sameM f (itF takC tq f) := itkC_s ok.1.2.1 tq
    have e4q : itF takC tq f 4 = nI (nB f) := smq.2.2.1.trans ok.1.2.2.1
    have etq : tq = nB f := by omega
    subst etq
    refine xg_iload_n (pc := 2) dX1_passHour_2 rfl ?_
    refine xg_aload_n (pc := 3) dX1_passHour_3 rfl ?_
    refine xg_get (pc := 4) dX1_passHour_4 flX1_38 (hp_lake hL) rfl ?_
    refine xg_eq e4q ?_
    refine xg_icmp_ge (pc := 7) (tgt := 26) dX1_passHour_7 (by decide) (fun c_7 => ?_) (fun c_7 => absurd c_7 (fun q => q (nI_le (by omega) (by omega))))
    exact lp_pass2 hL (ok.1.of smq.2.1 smq.2.2.1)
  | succ k ih =>
    intro tq ht
    have h5 := ok.1.2.2.2
    have smq : sameM f (itF takC tq f) := itkC_s ok.1.2.1 tq
    have e4q : itF takC tq f 4 = nI (nB f) := smq.2.2.1.trans ok.1.2.2.1
    refine xg_iload_n (pc := 2) dX1_passHour_2 rfl ?_
    refine xg_aload_n (pc := 3) dX1_passHour_3 rfl ?_
    refine xg_get (pc := 4) dX1_passHour_4 flX1_38 (hp_lake hL) rfl ?_
    refine xg_eq e4q ?_
    refine xg_icmp_ge (pc := 7) (tgt := 26) dX1_passHour_7 (by decide) (fun c_7 => absurd c_7 (nI_ge (by omega) (by omega))) (fun c_7 => ?_)
    refine xg_aload_n (pc := 10) dX1_passHour_10 rfl ?_
    refine xg_aload_n (pc := 11) dX1_passHour_11 rfl ?_
    refine xg_get (pc := 12) dX1_passHour_12 flX1_20 (hp_lake hL) rfl ?_
    refine xg_iload_n (pc := 15) dX1_passHour_15 rfl ?_
    refine xg_aald (pc := 16) (r := 12 + 16 * L + tq) tq dX1_passHour_16 (hp_barr hL) (by decide) rfl (by omega) (by decide) (if_pos (by omega)) ?_
    refine xg_cvV (pc := 17) (h1 := hp (va_up lk L (takC tq (itF takC tq f))) o mf wf q) (M' := mX1_fishWith) dX1_passHour_17 lkX1_97 mcX1_fishWith (hp_lake hL) rfl (ev_X1_fishWith (j := tq) hL (ok.of smq) (by rw [nB_of smq.2.2.1]; omega)) rfl rfl (Nat.le_of_ble_eq_true rfl) ?_
    refine xg_iinc (pc := 20) (y := nI (tq + 1)) (ls' := [some (.ref (1 + 16 * L)), some (.int (nI (tq + 1)))]) dX1_passHour_20 rfl (xinc _) (by decide) rfl ?_
    refine xg_goto (pc := 23) (tgt := 2) dX1_passHour_23 (by decide) ?_
    refine xg_eqh (h' := hp (va_up lk L (itF takC (tq + 1) f)) o mf wf q) rfl ?_
    exact ih (tq + 1) (by omega)
set_option maxRecDepth 100000 in
theorem ev_X1_passHour  (hL : L < 3) (ok : okM f) : xDv X false (d + 5) mX1_passHour [.ref (1 + 16 * L)] (hp (va_up lk L f) o mf wf q) [] (hp (va_up lk L (hrC f)) o mf wf q) := by
  refine xDv.of (ls := [some (.ref (1 + 16 * L)), none]) mcX1_passHour.1.2.2.2.2 (Nat.le_of_ble_eq_true rfl) rfl ?_
  refine xg_iconst (v := 0) (pc := 0) dX1_passHour_0 (by decide) ?_
  refine xg_istore_n (pc := 1) (ls' := [some (.ref (1 + 16 * L)), some (.int 0)]) dX1_passHour_1 (by decide) rfl ?_
  exact lp_pass1 hL ok (nB f) 0 (by omega)
set_option maxRecDepth 100000 in
theorem lp_passHours {n : Nat} (hL : L < 3) (ok : okM f) (hn : n < 2 ^ 31) : ∀ (k tq : Nat), tq + k = n → xGo X false (d + 6) 0 0 mX1_passHours 2 [some (.ref (1 + 16 * L)), some (.int (nI n)), some (.int (nI tq))] [] (hp (va_up lk L (hsC tq f)) o mf wf q) (fun v h' => v = [] ∧ h' = hp (va_up lk L (hsC n f)) o mf wf q) := by
  intro k
  induction k with
  | zero =>
    intro tq ht
    have etq : tq = n := by omega
    subst etq
    refine xg_iload_n (pc := 2) dX1_passHours_2 rfl ?_
    refine xg_iload_n (pc := 3) dX1_passHours_3 rfl ?_
    refine xg_icmp_ge (pc := 4) (tgt := 17) dX1_passHours_4 (by decide) (fun c_4 => ?_) (fun c_4 => absurd c_4 (fun q => q (nI_le (by omega) (by omega))))
    exact xg_ret (pc := 17) dX1_passHours_17 rfl (⟨rfl, rfl⟩)
  | succ k ih =>
    intro tq ht
    refine xg_iload_n (pc := 2) dX1_passHours_2 rfl ?_
    refine xg_iload_n (pc := 3) dX1_passHours_3 rfl ?_
    refine xg_icmp_ge (pc := 4) (tgt := 17) dX1_passHours_4 (by decide) (fun c_4 => absurd c_4 (nI_ge (by omega) (by omega))) (fun c_4 => ?_)
    refine xg_aload_n (pc := 7) dX1_passHours_7 rfl ?_
    refine xg_cvV (pc := 8) (h1 := hp (va_up lk L (hrC (hsC tq f))) o mf wf q) (M' := mX1_passHour) dX1_passHours_8 lkX1_94 mcX1_passHour (hp_lake hL) rfl (ev_X1_passHour hL (hsC_ok ok tq)) rfl rfl (Nat.le_of_ble_eq_true rfl) ?_
    refine xg_iinc (pc := 11) (y := nI (tq + 1)) (ls' := [some (.ref (1 + 16 * L)), some (.int (nI n)), some (.int (nI (tq + 1)))]) dX1_passHours_11 rfl (xinc _) (by decide) rfl ?_
    refine xg_goto (pc := 14) (tgt := 2) dX1_passHours_14 (by decide) ?_
    refine xg_eqh (h' := hp (va_up lk L (hsC (tq + 1) f)) o mf wf q) rfl ?_
    exact ih (tq + 1) (by omega)
set_option maxRecDepth 100000 in
theorem ev_X1_passHours {n : Nat} (hL : L < 3) (ok : okM f) (hn : n < 2 ^ 31) : xDv X false (d + 6) mX1_passHours [.ref (1 + 16 * L), .int (nI n)] (hp (va_up lk L f) o mf wf q) [] (hp (va_up lk L (hsC n f)) o mf wf q) := by
  refine xDv.of (ls := [some (.ref (1 + 16 * L)), some (.int (nI n)), none]) mcX1_passHours.1.2.2.2.2 (Nat.le_of_ble_eq_true rfl) rfl ?_
  refine xg_iconst (v := 0) (pc := 0) dX1_passHours_0 (by decide) ?_
  refine xg_istore_n (pc := 1) (ls' := [some (.ref (1 + 16 * L)), some (.int (nI n)), some (.int 0)]) dX1_passHours_1 (by decide) rfl ?_
  exact lp_passHours hL ok hn n 0 (by omega)
set_option maxRecDepth 100000 in
theorem ev_X1_addThing {a b c e g : Int32} (hL : L < 3) (ok : okN f) (hr : nT f < 8) : xDv X false (d + 1) mX1_addThing [.ref (1 + 16 * L), .int a, .int b, .int c, .int e, .int g] (hp (va_up lk L f) o mf wf q) [] (hp (va_up lk L (aT f a b c e g)) o mf wf q) := by
  refine xDv.of (ls := [some (.ref (1 + 16 * L)), some (.int a), some (.int b), some (.int c), some (.int e), some (.int g)]) mcX1_addThing.1.2.2.2.2 (Nat.le_of_ble_eq_true rfl) rfl ?_
  refine xg_aload_n (pc := 0) dX1_addThing_0 rfl ?_
  refine xg_get (pc := 1) dX1_addThing_1 flX1_35 (hp_lake hL) rfl ?_
  refine xg_eq ok.1 ?_
  refine xg_bipush (v := 8) (pc := 4) dX1_addThing_4 (by decide) ?_
  refine xg_icmp_ge (pc := 6) (tgt := 38) dX1_addThing_6 (by decide) (fun c_6 => absurd c_6 (nI_ge (b := 8) (by omega) (by omega))) (fun c_6 => ?_)
  refine xg_aload_n (pc := 9) dX1_addThing_9 rfl ?_
  refine xg_get (pc := 10) dX1_addThing_10 flX1_11 (hp_lake hL) rfl ?_
  refine xg_aload_n (pc := 13) dX1_addThing_13 rfl ?_
  refine xg_get (pc := 14) dX1_addThing_14 flX1_35 (hp_lake hL) rfl ?_
  refine xg_eq ok.1 ?_
  refine xg_aald (pc := 17) (r := 3 + 16 * L + (nT f)) (nT f) dX1_addThing_17 (hp_tarr hL) (by decide) rfl (by omega) (by decide) (if_pos (by omega)) ?_
  refine xg_iload_n (pc := 18) dX1_addThing_18 rfl ?_
  refine xg_iload_n (pc := 19) dX1_addThing_19 rfl ?_
  refine xg_iload_n (pc := 20) dX1_addThing_20 rfl ?_
  refine xg_iload (pc := 21) dX1_addThing_21 rfl ?_
  refine xg_iload (pc := 23) dX1_addThing_23 rfl ?_
  refine xg_cvV (pc := 25) (h1 := hp (va_up lk L (uT f (nT f) a b c e g)) o mf wf q) (M' := mX5_become) dX1_addThing_25 lkX1_56 mcX5_become (hp_thing hL (by omega)) rfl (ev_X5_become (i := nT f) hL (by omega)) rfl rfl (Nat.le_of_ble_eq_true rfl) ?_
  refine xg_aload_n (pc := 28) dX1_addThing_28 rfl ?_
  refine xg_dup (pc := 29) dX1_addThing_29 rfl ?_
  refine xg_get (pc := 30) dX1_addThing_30 flX1_35 (hp_lake hL) rfl ?_
  refine xg_eq uT_3 ?_
  refine xg_iconst (v := 1) (pc := 33) dX1_addThing_33 (by decide) ?_
  refine xg_iadd (pc := 34) dX1_addThing_34 ?_
  refine xg_puti (pc := 35) (h' := hp (va_up lk L (upd (uT f (nT f) a b c e g) 3 ((f 3) + 1))) o mf wf q) dX1_addThing_35 flX1_35 (hp_lake hL) (Nat.le_of_ble_eq_true rfl) (hs_lk hL (by decide)) ?_
  exact xg_ret (pc := 38) dX1_addThing_38 rfl (⟨rfl, rfl⟩)
set_option maxRecDepth 100000 in
theorem ev_X1_addBoat {a b : Int32} (hL : L < 3) (ok : okN f) (hr : nB f < 5) : xDv X false (d + 1) mX1_addBoat [.ref (1 + 16 * L), .int a, .int b] (hp (va_up lk L f) o mf wf q) [] (hp (va_up lk L (aB f a b)) o mf wf q) := by
  refine xDv.of (ls := [some (.ref (1 + 16 * L)), some (.int a), some (.int b)]) mcX1_addBoat.1.2.2.2.2 (Nat.le_of_ble_eq_true rfl) rfl ?_
  refine xg_aload_n (pc := 0) dX1_addBoat_0 rfl ?_
  refine xg_get (pc := 1) dX1_addBoat_1 flX1_38 (hp_lake hL) rfl ?_
  refine xg_eq ok.2.2.1 ?_
  refine xg_iconst (v := 5) (pc := 4) dX1_addBoat_4 (by decide) ?_
  refine xg_icmp_ge (pc := 5) (tgt := 34) dX1_addBoat_5 (by decide) (fun c_5 => absurd c_5 (nI_ge (b := 5) (by omega) (by omega))) (fun c_5 => ?_)
  refine xg_aload_n (pc := 8) dX1_addBoat_8 rfl ?_
  refine xg_get (pc := 9) dX1_addBoat_9 flX1_20 (hp_lake hL) rfl ?_
  refine xg_aload_n (pc := 12) dX1_addBoat_12 rfl ?_
  refine xg_get (pc := 13) dX1_addBoat_13 flX1_38 (hp_lake hL) rfl ?_
  refine xg_eq ok.2.2.1 ?_
  refine xg_aald (pc := 16) (r := 12 + 16 * L + (nB f)) (nB f) dX1_addBoat_16 (hp_barr hL) (by decide) rfl (by omega) (by decide) (if_pos (by omega)) ?_
  refine xg_iload_n (pc := 17) dX1_addBoat_17 rfl ?_
  refine xg_iload_n (pc := 18) dX1_addBoat_18 rfl ?_
  refine xg_iconst (v := 0) (pc := 19) dX1_addBoat_19 (by decide) ?_
  refine xg_iconst (v := 0) (pc := 20) dX1_addBoat_20 (by decide) ?_
  refine xg_cvV (pc := 21) (h1 := hp (va_up lk L (uB f (nB f) a b 0 0)) o mf wf q) (M' := mX0_become) dX1_addBoat_21 lkX1_72 mcX0_become (hp_boat hL (by omega)) rfl (ev_X0_become (j := nB f) hL (by omega)) rfl rfl (Nat.le_of_ble_eq_true rfl) ?_
  refine xg_aload_n (pc := 24) dX1_addBoat_24 rfl ?_
  refine xg_dup (pc := 25) dX1_addBoat_25 rfl ?_
  refine xg_get (pc := 26) dX1_addBoat_26 flX1_38 (hp_lake hL) rfl ?_
  refine xg_eq uB_4 ?_
  refine xg_iconst (v := 1) (pc := 29) dX1_addBoat_29 (by decide) ?_
  refine xg_iadd (pc := 30) dX1_addBoat_30 ?_
  refine xg_puti (pc := 31) (h' := hp (va_up lk L (upd (uB f (nB f) a b 0 0) 4 ((f 4) + 1))) o mf wf q) dX1_addBoat_31 flX1_38 (hp_lake hL) (Nat.le_of_ble_eq_true rfl) (hs_lk hL (by decide)) ?_
  exact xg_ret (pc := 34) dX1_addBoat_34 rfl (⟨rfl, rfl⟩)
end
