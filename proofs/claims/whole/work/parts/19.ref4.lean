section
variable {X : xS} {d : Nat} {lk : Nat → Nat → Int32} {o : xO} {mf wf : Nat → Int32} {q : xQ}
set_option maxRecDepth 100000 in
theorem lp_hour3a  (ok : okN mf) (h3 : md (mf 0) 4 = 3) : ∀ (k tq : Nat), tq + k = nT mf → xGo X false (d + 6) 0 0 mX7_hour 75 [some (.ref 62), some (.int (nI tq))] [] (hp lk o (itF brR tq mf) wf q) (fun v h' => v = [] ∧ h' = hp lk o (h4R (itF brR (nT mf) mf)) wf q) := by
  intro k
  induction k with
  | zero =>
    intro tq ht
    have h8 := ok.2.1
    have smq : sameM mf (itF brR tq mf) := .it _ _ (fun j hj g => brR_s (by omega) g)
    have e3q : itF brR tq mf 3 = nI (nT mf) := smq.2.1.trans ok.1
    have e0q : itF brR tq mf 0 = mf 0 := smq.1
    have etq : tq = nT mf := by omega
    subst etq
    refine xg_iload_n (pc := 75) dX7_hour_75 rfl ?_
    refine xg_aload_n (pc := 76) dX7_hour_76 rfl ?_
    refine xg_get (pc := 77) dX7_hour_77 flX7_9 hp_62 rfl ?_
    refine xg_iconst (v := 3) (pc := 80) dX7_hour_80 (by decide) ?_
    refine xg_iald (pc := 81) 3 dX7_hour_81 hp_63 (by simp only [xlit, nI_add, pk_mul]) (by omega) (by decide) ?_
    refine xg_eq e3q ?_
    refine xg_icmp_ge (pc := 82) (tgt := 129) dX7_hour_82 (by decide) (fun c_82 => ?_) (fun c_82 => absurd c_82 (fun q => q (nI_le (by omega) (by omega))))
    refine xg_aload_n (pc := 129) dX7_hour_129 rfl ?_
    refine xg_get (pc := 130) dX7_hour_130 flX7_9 hp_62 rfl ?_
    refine xg_iconst (v := 0) (pc := 133) dX7_hour_133 (by decide) ?_
    refine xg_dup2 (pc := 134) dX7_hour_134 rfl rfl ?_
    refine xg_iald (pc := 135) 0 dX7_hour_135 hp_63 (by simp only [xlit, nI_add, pk_mul]) (by omega) (by decide) ?_
    refine xg_iconst (v := 1) (pc := 136) dX7_hour_136 (by decide) ?_
    refine xg_iadd (pc := 137) dX7_hour_137 ?_
    refine xg_iast (pc := 138) (h' := hp lk o (upd (itF brR (nT mf) mf) 0 (((itF brR (nT mf) mf) 0) + 1)) wf q) 0 dX7_hour_138 hp_63 (by simp only [xlit, nI_add, pk_mul]) (by omega) (by decide) hs_mf ?_
    exact xg_ret (pc := 139) dX7_hour_139 rfl (⟨rfl, rfl⟩)
  | succ k ih =>
    intro tq ht
    have h8 := ok.2.1
    have smq : sameM mf (itF brR tq mf) := .it _ _ (fun j hj g => brR_s (by omega) g)
    have e3q : itF brR tq mf 3 = nI (nT mf) := smq.2.1.trans ok.1
    have e0q : itF brR tq mf 0 = mf 0 := smq.1
    refine xg_iload_n (pc := 75) dX7_hour_75 rfl ?_
    refine xg_aload_n (pc := 76) dX7_hour_76 rfl ?_
    refine xg_get (pc := 77) dX7_hour_77 flX7_9 hp_62 rfl ?_
    refine xg_iconst (v := 3) (pc := 80) dX7_hour_80 (by decide) ?_
    refine xg_iald (pc := 81) 3 dX7_hour_81 hp_63 (by simp only [xlit, nI_add, pk_mul]) (by omega) (by decide) ?_
    refine xg_eq e3q ?_
    refine xg_icmp_ge (pc := 82) (tgt := 129) dX7_hour_82 (by decide) (fun c_82 => absurd c_82 (nI_ge (by omega) (by omega))) (fun c_82 => ?_)
    refine xg_aload_n (pc := 85) dX7_hour_85 rfl ?_
    refine xg_get (pc := 86) dX7_hour_86 flX7_9 hp_62 rfl ?_
    refine xg_iconst (v := 0) (pc := 89) dX7_hour_89 (by decide) ?_
    refine xg_iald (pc := 90) 0 dX7_hour_90 hp_63 (by simp only [xlit, nI_add, pk_mul]) (by omega) (by decide) ?_
    refine xg_iconst (v := 4) (pc := 91) dX7_hour_91 (by decide) ?_
    refine xg_irem (pc := 92) dX7_hour_92 (by decide) ?_
    refine xg_iconst (v := 3) (pc := 93) dX7_hour_93 (by decide) ?_
    refine xg_icmp_ne (pc := 94) (tgt := 129) dX7_hour_94 (by decide) (fun c_94 => absurd c_94 (fun q => q (by rw [e0q]; exact h3))) (fun c_94 => ?_)
    refine xg_aload_n (pc := 97) dX7_hour_97 rfl ?_
    refine xg_get (pc := 98) dX7_hour_98 flX7_9 hp_62 rfl ?_
    refine xg_iconst (v := 5) (pc := 101) dX7_hour_101 (by decide) ?_
    refine xg_iconst (v := 5) (pc := 102) dX7_hour_102 (by decide) ?_
    refine xg_iload_n (pc := 103) dX7_hour_103 rfl ?_
    refine xg_imul (pc := 104) dX7_hour_104 ?_
    refine xg_iadd (pc := 105) dX7_hour_105 ?_
    refine xg_iconst (v := 3) (pc := 106) dX7_hour_106 (by decide) ?_
    refine xg_iadd (pc := 107) dX7_hour_107 ?_
    refine xg_aload_n (pc := 108) dX7_hour_108 rfl ?_
    refine xg_iload_n (pc := 109) dX7_hour_109 rfl ?_
    refine xg_iconst (v := 3) (pc := 110) dX7_hour_110 (by decide) ?_
    refine xg_cvI (pc := 111) (h1 := hp lk o (itF brR tq mf) wf q) (x := (itF brR tq mf) (5 + 5 * tq + 3)) (M' := mX7_lit) dX7_hour_111 lkX7_52 mcX7_lit hp_62 rfl (ev_X7_lit (t := tq) (w := 3) (by omega)) rfl rfl (Nat.le_of_ble_eq_true rfl) ?_
    refine xg_iconst (v := 1) (pc := 114) dX7_hour_114 (by decide) ?_
    refine xg_iadd (pc := 115) dX7_hour_115 ?_
    refine xg_iconst (v := 0) (pc := 116) dX7_hour_116 (by decide) ?_
    refine xg_bipush (v := 99) (pc := 117) dX7_hour_117 (by decide) ?_
    refine xg_csI (pc := 119) (h1 := hp lk o (itF brR tq mf) wf q) (x := cl3 (((itF brR tq mf) (5 + 5 * tq + 3)) + 1) 0 99) (M' := mX7_held) dX7_hour_119 lkX7_56 mcX7_held (ev_X7_held) rfl rfl (Nat.le_of_ble_eq_true rfl) ?_
    refine xg_iast (pc := 122) (h' := hp lk o (upd (itF brR tq mf) (5 + 5 * tq + 3) (cl3 (((itF brR tq mf) (5 + 5 * tq + 3)) + 1) 0 99)) wf q) (5 + 5 * tq + 3) dX7_hour_122 hp_63 (by simp only [xlit, nI_add, pk_mul]) (by omega) (by decide) hs_mf ?_
    refine xg_iinc (pc := 123) (y := nI (tq + 1)) (ls' := [some (.ref 62), some (.int (nI (tq + 1)))]) dX7_hour_123 rfl (xinc _) (by decide) rfl ?_
    refine xg_goto (pc := 126) (tgt := 75) dX7_hour_126 (by decide) ?_
    refine xg_eqh (h' := hp lk o (itF brR (tq + 1) mf) wf q) rfl ?_
    exact ih (tq + 1) (by omega)
set_option maxRecDepth 100000 in
theorem lp_hour3  (ok : okN mf) : xGo X false (d + 6) 0 0 mX7_hour 75 [some (.ref 62), some (.int 0)] [] (hp lk o mf wf q) (fun v h' => v = [] ∧ h' = hp lk o (h4R (h3R mf)) wf q) := by
  have h8 := ok.2.1
  by_cases h3 : md (mf 0) 4 = 3
  · rw [h3R, if_pos h3]; exact lp_hour3a ok h3 (nT mf) 0 (by omega)
  refine xg_iload_n (pc := 75) dX7_hour_75 rfl ?_
  refine xg_aload_n (pc := 76) dX7_hour_76 rfl ?_
  refine xg_get (pc := 77) dX7_hour_77 flX7_9 hp_62 rfl ?_
  refine xg_iconst (v := 3) (pc := 80) dX7_hour_80 (by decide) ?_
  refine xg_iald (pc := 81) 3 dX7_hour_81 hp_63 (by simp only [xlit, nI_add, pk_mul]) (by omega) (by decide) ?_
  refine xg_eq ok.1 ?_
  refine xg_icmp_ge (pc := 82) (tgt := 129) dX7_hour_82 (by decide) (fun c_82 => ?_) (fun c_82 => ?_)
  ·
    refine xg_aload_n (pc := 129) dX7_hour_129 rfl ?_
    refine xg_get (pc := 130) dX7_hour_130 flX7_9 hp_62 rfl ?_
    refine xg_iconst (v := 0) (pc := 133) dX7_hour_133 (by decide) ?_
    refine xg_dup2 (pc := 134) dX7_hour_134 rfl rfl ?_
    refine xg_iald (pc := 135) 0 dX7_hour_135 hp_63 (by simp only [xlit, nI_add, pk_mul]) (by omega) (by decide) ?_
    refine xg_iconst (v := 1) (pc := 136) dX7_hour_136 (by decide) ?_
    refine xg_iadd (pc := 137) dX7_hour_137 ?_
    refine xg_iast (pc := 138) (h' := hp lk o (upd mf 0 ((mf 0) + 1)) wf q) 0 dX7_hour_138 hp_63 (by simp only [xlit, nI_add, pk_mul]) (by omega) (by decide) hs_mf ?_
    exact xg_ret (pc := 139) dX7_hour_139 rfl (⟨rfl, by rw [h3R, if_neg h3]; rfl⟩)
  ·
    refine xg_aload_n (pc := 85) dX7_hour_85 rfl ?_
    refine xg_get (pc := 86) dX7_hour_86 flX7_9 hp_62 rfl ?_
    refine xg_iconst (v := 0) (pc := 89) dX7_hour_89 (by decide) ?_
    refine xg_iald (pc := 90) 0 dX7_hour_90 hp_63 (by simp only [xlit, nI_add, pk_mul]) (by omega) (by decide) ?_
    refine xg_iconst (v := 4) (pc := 91) dX7_hour_91 (by decide) ?_
    refine xg_irem (pc := 92) dX7_hour_92 (by decide) ?_
    refine xg_iconst (v := 3) (pc := 93) dX7_hour_93 (by decide) ?_
    refine xg_icmp_ne (pc := 94) (tgt := 129) dX7_hour_94 (by decide) (fun c_94 => ?_) (fun c_94 => absurd c_94 (fun q => h3 q))
    refine xg_aload_n (pc := 129) dX7_hour_129 rfl ?_
    refine xg_get (pc := 130) dX7_hour_130 flX7_9 hp_62 rfl ?_
    refine xg_iconst (v := 0) (pc := 133) dX7_hour_133 (by decide) ?_
    refine xg_dup2 (pc := 134) dX7_hour_134 rfl rfl ?_
    refine xg_iald (pc := 135) 0 dX7_hour_135 hp_63 (by simp only [xlit, nI_add, pk_mul]) (by omega) (by decide) ?_
    refine xg_iconst (v := 1) (pc := 136) dX7_hour_136 (by decide) ?_
    refine xg_iadd (pc := 137) dX7_hour_137 ?_
    refine xg_iast (pc := 138) (h' := hp lk o (upd mf 0 ((mf 0) + 1)) wf q) 0 dX7_hour_138 hp_63 (by simp only [xlit, nI_add, pk_mul]) (by omega) (by decide) hs_mf ?_
    exact xg_ret (pc := 139) dX7_hour_139 rfl (⟨rfl, by rw [h3R, if_neg h3]; rfl⟩)
set_option maxRecDepth 100000 in
theorem lp_hour2a  (ok : okN mf) (h2 : md (mf 0) 24 = 20) : ∀ (k tq : Nat), tq + k = nB mf → xGo X false (d + 6) 0 0 mX7_hour 25 [some (.ref 62), some (.int (nI tq))] [] (hp lk o (itF slR tq mf) wf q) (fun v h' => v = [] ∧ h' = hp lk o (h4R (h3R (itF slR (nB mf) mf))) wf q) := by
  intro k
  induction k with
  | zero =>
    intro tq ht
    have h5 := ok.2.2.2
    have smq : sameM mf (itF slR tq mf) := .it _ _ (fun j hj g => slR_s g)
    have e4q : itF slR tq mf 4 = nI (nB mf) := smq.2.2.1.trans ok.2.2.1
    have e0q : itF slR tq mf 0 = mf 0 := smq.1
    have etq : tq = nB mf := by omega
    subst etq
    refine xg_iload_n (pc := 25) dX7_hour_25 rfl ?_
    refine xg_aload_n (pc := 26) dX7_hour_26 rfl ?_
    refine xg_get (pc := 27) dX7_hour_27 flX7_9 hp_62 rfl ?_
    refine xg_iconst (v := 4) (pc := 30) dX7_hour_30 (by decide) ?_
    refine xg_iald (pc := 31) 4 dX7_hour_31 hp_63 (by simp only [xlit, nI_add, pk_mul]) (by omega) (by decide) ?_
    refine xg_eq e4q ?_
    refine xg_icmp_ge (pc := 32) (tgt := 73) dX7_hour_32 (by decide) (fun c_32 => ?_) (fun c_32 => absurd c_32 (fun q => q (nI_le (by omega) (by omega))))
    refine xg_iconst (v := 0) (pc := 73) dX7_hour_73 (by decide) ?_
    refine xg_istore_n (pc := 74) (ls' := [some (.ref 62), some (.int 0)]) dX7_hour_74 (by decide) rfl ?_
    exact lp_hour3 (ok.of smq.2.1 smq.2.2.1)
  | succ k ih =>
    intro tq ht
    have h5 := ok.2.2.2
    have smq : sameM mf (itF slR tq mf) := .it _ _ (fun j hj g => slR_s g)
    have e4q : itF slR tq mf 4 = nI (nB mf) := smq.2.2.1.trans ok.2.2.1
    have e0q : itF slR tq mf 0 = mf 0 := smq.1
    refine xg_iload_n (pc := 25) dX7_hour_25 rfl ?_
    refine xg_aload_n (pc := 26) dX7_hour_26 rfl ?_
    refine xg_get (pc := 27) dX7_hour_27 flX7_9 hp_62 rfl ?_
    refine xg_iconst (v := 4) (pc := 30) dX7_hour_30 (by decide) ?_
    refine xg_iald (pc := 31) 4 dX7_hour_31 hp_63 (by simp only [xlit, nI_add, pk_mul]) (by omega) (by decide) ?_
    refine xg_eq e4q ?_
    refine xg_icmp_ge (pc := 32) (tgt := 73) dX7_hour_32 (by decide) (fun c_32 => absurd c_32 (nI_ge (by omega) (by omega))) (fun c_32 => ?_)
    refine xg_aload_n (pc := 35) dX7_hour_35 rfl ?_
    refine xg_get (pc := 36) dX7_hour_36 flX7_9 hp_62 rfl ?_
    refine xg_iconst (v := 0) (pc := 39) dX7_hour_39 (by decide) ?_
    refine xg_iald (pc := 40) 0 dX7_hour_40 hp_63 (by simp only [xlit, nI_add, pk_mul]) (by omega) (by decide) ?_
    refine xg_bipush (v := 24) (pc := 41) dX7_hour_41 (by decide) ?_
    refine xg_irem (pc := 43) dX7_hour_43 (by decide) ?_
    refine xg_bipush (v := 20) (pc := 44) dX7_hour_44 (by decide) ?_
    refine xg_icmp_ne (pc := 46) (tgt := 73) dX7_hour_46 (by decide) (fun c_46 => absurd c_46 (fun q => q (by rw [e0q]; exact h2))) (fun c_46 => ?_)
    refine xg_aload_n (pc := 49) dX7_hour_49 rfl ?_
    refine xg_iload_n (pc := 50) dX7_hour_50 rfl ?_
    refine xg_aload_n (pc := 51) dX7_hour_51 rfl ?_
    refine xg_iload_n (pc := 52) dX7_hour_52 rfl ?_
    refine xg_iconst (v := 2) (pc := 53) dX7_hour_53 (by decide) ?_
    refine xg_cvI (pc := 54) (h1 := hp lk o (itF slR tq mf) wf q) (x := (itF slR tq mf) (45 + 4 * tq + 2)) (M' := mX7_has) dX7_hour_54 lkX7_77 mcX7_has hp_62 rfl (ev_X7_has (j := tq) (w := 2) (by omega)) rfl rfl (Nat.le_of_ble_eq_true rfl) ?_
    refine xg_cvV (pc := 57) (h1 := hp lk o (payR (itF slR tq mf) tq ((itF slR tq mf) (45 + 4 * tq + 2))) wf q) (M' := mX7_pays) dX7_hour_57 lkX7_125 mcX7_pays hp_62 rfl (ev_X7_pays (b := tq) (by omega)) rfl rfl (Nat.le_of_ble_eq_true rfl) ?_
    refine xg_aload_n (pc := 60) dX7_hour_60 rfl ?_
    refine xg_iload_n (pc := 61) dX7_hour_61 rfl ?_
    refine xg_iconst (v := 2) (pc := 62) dX7_hour_62 (by decide) ?_
    refine xg_iconst (v := 0) (pc := 63) dX7_hour_63 (by decide) ?_
    refine xg_cvV (pc := 64) (h1 := hp lk o (upd (payR (itF slR tq mf) tq ((itF slR tq mf) (45 + 4 * tq + 2))) (45 + 4 * tq + 2) 0) wf q) (M' := mX7_gets) dX7_hour_64 lkX7_110 mcX7_gets hp_62 rfl (ev_X7_gets (j := tq) (w := 2) (by omega)) rfl rfl (Nat.le_of_ble_eq_true rfl) ?_
    refine xg_iinc (pc := 67) (y := nI (tq + 1)) (ls' := [some (.ref 62), some (.int (nI (tq + 1)))]) dX7_hour_67 rfl (xinc _) (by decide) rfl ?_
    refine xg_goto (pc := 70) (tgt := 25) dX7_hour_70 (by decide) ?_
    refine xg_eqh (h' := hp lk o (itF slR (tq + 1) mf) wf q) rfl ?_
    exact ih (tq + 1) (by omega)
set_option maxRecDepth 100000 in
theorem lp_hour2  (ok : okN mf) : xGo X false (d + 6) 0 0 mX7_hour 25 [some (.ref 62), some (.int 0)] [] (hp lk o mf wf q) (fun v h' => v = [] ∧ h' = hp lk o (h4R (h3R (h2R mf))) wf q) := by
  have h5 := ok.2.2.2
  by_cases h2 : md (mf 0) 24 = 20
  · rw [h2R, if_pos h2]; exact lp_hour2a ok h2 (nB mf) 0 (by omega)
  rw [h2R, if_neg h2]
  refine xg_iload_n (pc := 25) dX7_hour_25 rfl ?_
  refine xg_aload_n (pc := 26) dX7_hour_26 rfl ?_
  refine xg_get (pc := 27) dX7_hour_27 flX7_9 hp_62 rfl ?_
  refine xg_iconst (v := 4) (pc := 30) dX7_hour_30 (by decide) ?_
  refine xg_iald (pc := 31) 4 dX7_hour_31 hp_63 (by simp only [xlit, nI_add, pk_mul]) (by omega) (by decide) ?_
  refine xg_eq ok.2.2.1 ?_
  refine xg_icmp_ge (pc := 32) (tgt := 73) dX7_hour_32 (by decide) (fun c_32 => ?_) (fun c_32 => ?_)
  ·
    refine xg_iconst (v := 0) (pc := 73) dX7_hour_73 (by decide) ?_
    refine xg_istore_n (pc := 74) (ls' := [some (.ref 62), some (.int 0)]) dX7_hour_74 (by decide) rfl ?_
    exact lp_hour3 ok
  ·
    refine xg_aload_n (pc := 35) dX7_hour_35 rfl ?_
    refine xg_get (pc := 36) dX7_hour_36 flX7_9 hp_62 rfl ?_
    refine xg_iconst (v := 0) (pc := 39) dX7_hour_39 (by decide) ?_
    refine xg_iald (pc := 40) 0 dX7_hour_40 hp_63 (by simp only [xlit, nI_add, pk_mul]) (by omega) (by decide) ?_
    refine xg_bipush (v := 24) (pc := 41) dX7_hour_41 (by decide) ?_
    refine xg_irem (pc := 43) dX7_hour_43 (by decide) ?_
    refine xg_bipush (v := 20) (pc := 44) dX7_hour_44 (by decide) ?_
    refine xg_icmp_ne (pc := 46) (tgt := 73) dX7_hour_46 (by decide) (fun c_46 => ?_) (fun c_46 => absurd c_46 (fun q => h2 q))
    refine xg_iconst (v := 0) (pc := 73) dX7_hour_73 (by decide) ?_
    refine xg_istore_n (pc := 74) (ls' := [some (.ref 62), some (.int 0)]) dX7_hour_74 (by decide) rfl ?_
    exact lp_hour3 ok
set_option maxRecDepth 100000 in
theorem lp_hour1  (ok : okM mf) : ∀ (k tq : Nat), tq + k = nB mf → xGo X false (d + 6) 0 0 mX7_hour 2 [some (.ref 62), some (.int (nI tq))] [] (hp lk o (itF takR tq mf) wf q) (fun v h' => v = [] ∧ h' = hp lk o (hrR mf) wf q) := by
  intro k
  induction k with
  | zero =>
    intro tq ht
    have h5 := ok.1.2.2.2
    have smq : sameM mf (itF takR tq mf) := itk_s ok.1.2.1 tq
    have e4q : itF takR tq mf 4 = nI (nB mf) := smq.2.2.1.trans ok.1.2.2.1
    have etq : tq = nB mf := by omega
    subst etq
    refine xg_iload_n (pc := 2) dX7_hour_2 rfl ?_
    refine xg_aload_n (pc := 3) dX7_hour_3 rfl ?_
    refine xg_get (pc := 4) dX7_hour_4 flX7_9 hp_62 rfl ?_
    refine xg_iconst (v := 4) (pc := 7) dX7_hour_7 (by decide) ?_
    refine xg_iald (pc := 8) 4 dX7_hour_8 hp_63 (by simp only [xlit, nI_add, pk_mul]) (by omega) (by decide) ?_
    refine xg_eq e4q ?_
    refine xg_icmp_ge (pc := 9) (tgt := 23) dX7_hour_9 (by decide) (fun c_9 => ?_) (fun c_9 => absurd c_9 (fun q => q (nI_le (by omega) (by omega))))
    refine xg_iconst (v := 0) (pc := 23) dX7_hour_23 (by decide) ?_
    refine xg_istore_n (pc := 24) (ls' := [some (.ref 62), some (.int 0)]) dX7_hour_24 (by decide) rfl ?_
    exact lp_hour2 (ok.1.of smq.2.1 smq.2.2.1)
  | succ k ih =>
    intro tq ht
    have h5 := ok.1.2.2.2
    have smq : sameM mf (itF takR tq mf) := itk_s ok.1.2.1 tq
    have e4q : itF takR tq mf 4 = nI (nB mf) := smq.2.2.1.trans ok.1.2.2.1
    refine xg_iload_n (pc := 2) dX7_hour_2 rfl ?_
    refine xg_aload_n (pc := 3) dX7_hour_3 rfl ?_
    refine xg_get (pc := 4) dX7_hour_4 flX7_9 hp_62 rfl ?_
    refine xg_iconst (v := 4) (pc := 7) dX7_hour_7 (by decide) ?_
    refine xg_iald (pc := 8) 4 dX7_hour_8 hp_63 (by simp only [xlit, nI_add, pk_mul]) (by omega) (by decide) ?_
    refine xg_eq e4q ?_
    refine xg_icmp_ge (pc := 9) (tgt := 23) dX7_hour_9 (by decide) (fun c_9 => absurd c_9 (nI_ge (by omega) (by omega))) (fun c_9 => ?_)
    refine xg_aload_n (pc := 12) dX7_hour_12 rfl ?_
    refine xg_iload_n (pc := 13) dX7_hour_13 rfl ?_
    refine xg_cvV (pc := 14) (h1 := hp lk o (takR tq (itF takR tq mf)) wf q) (M' := mX7_takes) dX7_hour_14 lkX7_129 mcX7_takes hp_62 rfl (ev_X7_takes (b := tq) (ok.of smq) (by rw [nB_of smq.2.2.1]; omega)) rfl rfl (Nat.le_of_ble_eq_true rfl) ?_
    refine xg_iinc (pc := 17) (y := nI (tq + 1)) (ls' := [some (.ref 62), some (.int (nI (tq + 1)))]) dX7_hour_17 rfl (xinc _) (by decide) rfl ?_
    refine xg_goto (pc := 20) (tgt := 2) dX7_hour_20 (by decide) ?_
    refine xg_eqh (h' := hp lk o (itF takR (tq + 1) mf) wf q) rfl ?_
    exact ih (tq + 1) (by omega)
set_option maxRecDepth 100000 in
theorem ev_X7_hour  (ok : okM mf) : xDv X false (d + 6) mX7_hour [.ref 62] (hp lk o mf wf q) [] (hp lk o (hrR mf) wf q) := by
  refine xDv.of (ls := [some (.ref 62), none]) mcX7_hour.1.2.2.2.2 (Nat.le_of_ble_eq_true rfl) rfl ?_
  refine xg_iconst (v := 0) (pc := 0) dX7_hour_0 (by decide) ?_
  refine xg_istore_n (pc := 1) (ls' := [some (.ref 62), some (.int 0)]) dX7_hour_1 (by decide) rfl ?_
  exact lp_hour1 ok (nB mf) 0 (by omega)
set_option maxRecDepth 100000 in
theorem lp_goesOn {n : Nat} (ok : okM mf) (hn : n < 2 ^ 31) : ∀ (k tq : Nat), tq + k = n → xGo X false (d + 7) 0 0 mX7_goesOn 2 [some (.ref 62), some (.int (nI n)), some (.int (nI tq))] [] (hp lk o (hsR tq mf) wf q) (fun v h' => v = [] ∧ h' = hp lk o (hsR n mf) wf q) := by
  intro k
  induction k with
  | zero =>
    intro tq ht
    have etq : tq = n := by omega
    subst etq
    refine xg_iload_n (pc := 2) dX7_goesOn_2 rfl ?_
    refine xg_iload_n (pc := 3) dX7_goesOn_3 rfl ?_
    refine xg_icmp_ge (pc := 4) (tgt := 17) dX7_goesOn_4 (by decide) (fun c_4 => ?_) (fun c_4 => absurd c_4 (fun q => q (nI_le (by omega) (by omega))))
    exact xg_ret (pc := 17) dX7_goesOn_17 rfl (⟨rfl, rfl⟩)
  | succ k ih =>
    intro tq ht
    refine xg_iload_n (pc := 2) dX7_goesOn_2 rfl ?_
    refine xg_iload_n (pc := 3) dX7_goesOn_3 rfl ?_
    refine xg_icmp_ge (pc := 4) (tgt := 17) dX7_goesOn_4 (by decide) (fun c_4 => absurd c_4 (nI_ge (by omega) (by omega))) (fun c_4 => ?_)
    refine xg_aload_n (pc := 7) dX7_goesOn_7 rfl ?_
    refine xg_cvV (pc := 8) (h1 := hp lk o (hrR (hsR tq mf)) wf q) (M' := mX7_hour) dX7_goesOn_8 lkX7_133 mcX7_hour hp_62 rfl (ev_X7_hour (hsR_ok ok tq)) rfl rfl (Nat.le_of_ble_eq_true rfl) ?_
    refine xg_iinc (pc := 11) (y := nI (tq + 1)) (ls' := [some (.ref 62), some (.int (nI n)), some (.int (nI (tq + 1)))]) dX7_goesOn_11 rfl (xinc _) (by decide) rfl ?_
    refine xg_goto (pc := 14) (tgt := 2) dX7_goesOn_14 (by decide) ?_
    refine xg_eqh (h' := hp lk o (hsR (tq + 1) mf) wf q) rfl ?_
    exact ih (tq + 1) (by omega)
set_option maxRecDepth 100000 in
theorem ev_X7_goesOn {n : Nat} (ok : okM mf) (hn : n < 2 ^ 31) : xDv X false (d + 7) mX7_goesOn [.ref 62, .int (nI n)] (hp lk o mf wf q) [] (hp lk o (hsR n mf) wf q) := by
  refine xDv.of (ls := [some (.ref 62), some (.int (nI n)), none]) mcX7_goesOn.1.2.2.2.2 (Nat.le_of_ble_eq_true rfl) rfl ?_
  refine xg_iconst (v := 0) (pc := 0) dX7_goesOn_0 (by decide) ?_
  refine xg_istore_n (pc := 1) (ls' := [some (.ref 62), some (.int (nI n)), some (.int 0)]) dX7_goesOn_1 (by decide) rfl ?_
  exact lp_goesOn ok hn n 0 (by omega)
set_option maxRecDepth 100000 in
theorem lp_copy_mw   : ∀ (k tq : Nat), tq + k = 65 → xGo X false (d + 0) 0 0 mX7_copyAll 2 [some (.ref 63), some (.ref 65), some (.int (nI tq))] [] (hp lk o mf (cpF tq mf wf) q) (fun v h' => v = [] ∧ h' = hp lk o mf (cpF 65 mf wf) q) := by
  intro k
  induction k with
  | zero =>
    intro tq ht
    have etq : tq = 65 := by omega
    subst etq
    refine xg_iload_n (pc := 2) dX7_copyAll_2 rfl ?_
    refine xg_bipush (v := 65) (pc := 3) dX7_copyAll_3 (by decide) ?_
    refine xg_icmp_ge (pc := 5) (tgt := 20) dX7_copyAll_5 (by decide) (fun c_5 => ?_) (fun c_5 => absurd c_5 (by decide))
    exact xg_ret (pc := 20) dX7_copyAll_20 rfl (⟨rfl, rfl⟩)
  | succ k ih =>
    intro tq ht
    refine xg_iload_n (pc := 2) dX7_copyAll_2 rfl ?_
    refine xg_bipush (v := 65) (pc := 3) dX7_copyAll_3 (by decide) ?_
    refine xg_icmp_ge (pc := 5) (tgt := 20) dX7_copyAll_5 (by decide) (fun c_5 => absurd c_5 (nI_ge (b := 65) (by omega) (by omega))) (fun c_5 => ?_)
    refine xg_aload_n (pc := 8) dX7_copyAll_8 rfl ?_
    refine xg_iload_n (pc := 9) dX7_copyAll_9 rfl ?_
    refine xg_aload_n (pc := 10) dX7_copyAll_10 rfl ?_
    refine xg_iload_n (pc := 11) dX7_copyAll_11 rfl ?_
    refine xg_iald (pc := 12) tq dX7_copyAll_12 hp_63 rfl (by omega) (by decide) ?_
    refine xg_iast (pc := 13) (h' := hp lk o mf (upd (cpF tq mf wf) tq (mf tq)) q) tq dX7_copyAll_13 hp_65 rfl (by omega) (by decide) hs_wf ?_
    refine xg_iinc (pc := 14) (y := nI (tq + 1)) (ls' := [some (.ref 63), some (.ref 65), some (.int (nI (tq + 1)))]) dX7_copyAll_14 rfl (xinc _) (by decide) rfl ?_
    refine xg_goto (pc := 17) (tgt := 2) dX7_copyAll_17 (by decide) ?_
    refine xg_eqh (h' := hp lk o mf (cpF (tq + 1) mf wf) q) (by rw [cpF_s]) ?_
    exact ih (tq + 1) (by omega)
set_option maxRecDepth 100000 in
theorem ev_copy_mw  : xDv X false (d + 0) mX7_copyAll [.ref 63, .ref 65] (hp lk o mf wf q) [] (hp lk o mf (cpF 65 mf wf) q) := by
  refine xDv.of (ls := [some (.ref 63), some (.ref 65), none]) mcX7_copyAll.1.2.2.2.2 (Nat.le_of_ble_eq_true rfl) rfl ?_
  refine xg_iconst (v := 0) (pc := 0) dX7_copyAll_0 (by decide) ?_
  refine xg_istore_n (pc := 1) (ls' := [some (.ref 63), some (.ref 65), some (.int 0)]) dX7_copyAll_1 (by decide) rfl ?_
  refine xg_eqh (h' := hp lk o mf (cpF 0 mf wf) q) (by rw [cpF_0]) ?_
  exact lp_copy_mw 65 0 (by omega)
set_option maxRecDepth 100000 in
theorem lp_copy_wm   : ∀ (k tq : Nat), tq + k = 65 → xGo X false (d + 0) 0 0 mX7_copyAll 2 [some (.ref 65), some (.ref 63), some (.int (nI tq))] [] (hp lk o (cpF tq wf mf) wf q) (fun v h' => v = [] ∧ h' = hp lk o (cpF 65 wf mf) wf q) := by
  intro k
  induction k with
  | zero =>
    intro tq ht
    have etq : tq = 65 := by omega
    subst etq
    refine xg_iload_n (pc := 2) dX7_copyAll_2 rfl ?_
    refine xg_bipush (v := 65) (pc := 3) dX7_copyAll_3 (by decide) ?_
    refine xg_icmp_ge (pc := 5) (tgt := 20) dX7_copyAll_5 (by decide) (fun c_5 => ?_) (fun c_5 => absurd c_5 (by decide))
    exact xg_ret (pc := 20) dX7_copyAll_20 rfl (⟨rfl, rfl⟩)
  | succ k ih =>
    intro tq ht
    refine xg_iload_n (pc := 2) dX7_copyAll_2 rfl ?_
    refine xg_bipush (v := 65) (pc := 3) dX7_copyAll_3 (by decide) ?_
    refine xg_icmp_ge (pc := 5) (tgt := 20) dX7_copyAll_5 (by decide) (fun c_5 => absurd c_5 (nI_ge (b := 65) (by omega) (by omega))) (fun c_5 => ?_)
    refine xg_aload_n (pc := 8) dX7_copyAll_8 rfl ?_
    refine xg_iload_n (pc := 9) dX7_copyAll_9 rfl ?_
    refine xg_aload_n (pc := 10) dX7_copyAll_10 rfl ?_
    refine xg_iload_n (pc := 11) dX7_copyAll_11 rfl ?_
    refine xg_iald (pc := 12) tq dX7_copyAll_12 hp_65 rfl (by omega) (by decide) ?_
    refine xg_iast (pc := 13) (h' := hp lk o (upd (cpF tq wf mf) tq (wf tq)) wf q) tq dX7_copyAll_13 hp_63 rfl (by omega) (by decide) hs_mf ?_
    refine xg_iinc (pc := 14) (y := nI (tq + 1)) (ls' := [some (.ref 65), some (.ref 63), some (.int (nI (tq + 1)))]) dX7_copyAll_14 rfl (xinc _) (by decide) rfl ?_
    refine xg_goto (pc := 17) (tgt := 2) dX7_copyAll_17 (by decide) ?_
    refine xg_eqh (h' := hp lk o (cpF (tq + 1) wf mf) wf q) (by rw [cpF_s]) ?_
    exact ih (tq + 1) (by omega)
set_option maxRecDepth 100000 in
theorem ev_copy_wm  : xDv X false (d + 0) mX7_copyAll [.ref 65, .ref 63] (hp lk o mf wf q) [] (hp lk o (cpF 65 wf mf) wf q) := by
  refine xDv.of (ls := [some (.ref 65), some (.ref 63), none]) mcX7_copyAll.1.2.2.2.2 (Nat.le_of_ble_eq_true rfl) rfl ?_
  refine xg_iconst (v := 0) (pc := 0) dX7_copyAll_0 (by decide) ?_
  refine xg_istore_n (pc := 1) (ls' := [some (.ref 65), some (.ref 63), some (.int 0)]) dX7_copyAll_1 (by decide) rfl ?_
  refine xg_eqh (h' := hp lk o (cpF 0 wf mf) wf q) (by rw [cpF_0]) ?_
  exact lp_copy_wm 65 0 (by omega)
set_option maxRecDepth 100000 in
theorem lp_copy_mk   : ∀ (k tq : Nat), tq + k = 65 → xGo X false (d + 0) 0 0 mX7_copyAll 2 [some (.ref 63), some (.ref 64), some (.int (nI tq))] [] (hp lk o mf wf (cpF tq mf q.1, q.2.1, q.2.2.1, q.2.2.2.1, q.2.2.2.2.1, q.2.2.2.2.2.1, q.2.2.2.2.2.2.1, q.2.2.2.2.2.2.2.1, q.2.2.2.2.2.2.2.2.1, q.2.2.2.2.2.2.2.2.2.1, q.2.2.2.2.2.2.2.2.2.2.1, q.2.2.2.2.2.2.2.2.2.2.2.1, q.2.2.2.2.2.2.2.2.2.2.2.2.1, q.2.2.2.2.2.2.2.2.2.2.2.2.2.1, q.2.2.2.2.2.2.2.2.2.2.2.2.2.2)) (fun v h' => v = [] ∧ h' = hp lk o mf wf (cpF 65 mf q.1, q.2.1, q.2.2.1, q.2.2.2.1, q.2.2.2.2.1, q.2.2.2.2.2.1, q.2.2.2.2.2.2.1, q.2.2.2.2.2.2.2.1, q.2.2.2.2.2.2.2.2.1, q.2.2.2.2.2.2.2.2.2.1, q.2.2.2.2.2.2.2.2.2.2.1, q.2.2.2.2.2.2.2.2.2.2.2.1, q.2.2.2.2.2.2.2.2.2.2.2.2.1, q.2.2.2.2.2.2.2.2.2.2.2.2.2.1, q.2.2.2.2.2.2.2.2.2.2.2.2.2.2)) := by
  intro k
  induction k with
  | zero =>
    intro tq ht
    have etq : tq = 65 := by omega
    subst etq
    refine xg_iload_n (pc := 2) dX7_copyAll_2 rfl ?_
    refine xg_bipush (v := 65) (pc := 3) dX7_copyAll_3 (by decide) ?_
    refine xg_icmp_ge (pc := 5) (tgt := 20) dX7_copyAll_5 (by decide) (fun c_5 => ?_) (fun c_5 => absurd c_5 (by decide))
    exact xg_ret (pc := 20) dX7_copyAll_20 rfl (⟨rfl, rfl⟩)
  | succ k ih =>
    intro tq ht
    refine xg_iload_n (pc := 2) dX7_copyAll_2 rfl ?_
    refine xg_bipush (v := 65) (pc := 3) dX7_copyAll_3 (by decide) ?_
    refine xg_icmp_ge (pc := 5) (tgt := 20) dX7_copyAll_5 (by decide) (fun c_5 => absurd c_5 (nI_ge (b := 65) (by omega) (by omega))) (fun c_5 => ?_)
    refine xg_aload_n (pc := 8) dX7_copyAll_8 rfl ?_
    refine xg_iload_n (pc := 9) dX7_copyAll_9 rfl ?_
    refine xg_aload_n (pc := 10) dX7_copyAll_10 rfl ?_
    refine xg_iload_n (pc := 11) dX7_copyAll_11 rfl ?_
    refine xg_iald (pc := 12) tq dX7_copyAll_12 hp_63 rfl (by omega) (by decide) ?_
    refine xg_iast (pc := 13) (h' := hp lk o mf wf (upd (cpF tq mf q.1) tq (mf tq), q.2.1, q.2.2.1, q.2.2.2.1, q.2.2.2.2.1, q.2.2.2.2.2.1, q.2.2.2.2.2.2.1, q.2.2.2.2.2.2.2.1, q.2.2.2.2.2.2.2.2.1, q.2.2.2.2.2.2.2.2.2.1, q.2.2.2.2.2.2.2.2.2.2.1, q.2.2.2.2.2.2.2.2.2.2.2.1, q.2.2.2.2.2.2.2.2.2.2.2.2.1, q.2.2.2.2.2.2.2.2.2.2.2.2.2.1, q.2.2.2.2.2.2.2.2.2.2.2.2.2.2)) tq dX7_copyAll_13 hp_64 rfl (by omega) (by decide) hs_kf ?_
    refine xg_iinc (pc := 14) (y := nI (tq + 1)) (ls' := [some (.ref 63), some (.ref 64), some (.int (nI (tq + 1)))]) dX7_copyAll_14 rfl (xinc _) (by decide) rfl ?_
    refine xg_goto (pc := 17) (tgt := 2) dX7_copyAll_17 (by decide) ?_
    refine xg_eqh (h' := hp lk o mf wf (cpF (tq + 1) mf q.1, q.2.1, q.2.2.1, q.2.2.2.1, q.2.2.2.2.1, q.2.2.2.2.2.1, q.2.2.2.2.2.2.1, q.2.2.2.2.2.2.2.1, q.2.2.2.2.2.2.2.2.1, q.2.2.2.2.2.2.2.2.2.1, q.2.2.2.2.2.2.2.2.2.2.1, q.2.2.2.2.2.2.2.2.2.2.2.1, q.2.2.2.2.2.2.2.2.2.2.2.2.1, q.2.2.2.2.2.2.2.2.2.2.2.2.2.1, q.2.2.2.2.2.2.2.2.2.2.2.2.2.2)) (by rw [cpF_s]) ?_
    exact ih (tq + 1) (by omega)
set_option maxRecDepth 100000 in
theorem ev_copy_mk  : xDv X false (d + 0) mX7_copyAll [.ref 63, .ref 64] (hp lk o mf wf q) [] (hp lk o mf wf (cpF 65 mf q.1, q.2.1, q.2.2.1, q.2.2.2.1, q.2.2.2.2.1, q.2.2.2.2.2.1, q.2.2.2.2.2.2.1, q.2.2.2.2.2.2.2.1, q.2.2.2.2.2.2.2.2.1, q.2.2.2.2.2.2.2.2.2.1, q.2.2.2.2.2.2.2.2.2.2.1, q.2.2.2.2.2.2.2.2.2.2.2.1, q.2.2.2.2.2.2.2.2.2.2.2.2.1, q.2.2.2.2.2.2.2.2.2.2.2.2.2.1, q.2.2.2.2.2.2.2.2.2.2.2.2.2.2)) := by
  refine xDv.of (ls := [some (.ref 63), some (.ref 64), none]) mcX7_copyAll.1.2.2.2.2 (Nat.le_of_ble_eq_true rfl) rfl ?_
  refine xg_iconst (v := 0) (pc := 0) dX7_copyAll_0 (by decide) ?_
  refine xg_istore_n (pc := 1) (ls' := [some (.ref 63), some (.ref 64), some (.int 0)]) dX7_copyAll_1 (by decide) rfl ?_
  refine xg_eqh (h' := hp lk o mf wf (cpF 0 mf q.1, q.2.1, q.2.2.1, q.2.2.2.1, q.2.2.2.2.1, q.2.2.2.2.2.1, q.2.2.2.2.2.2.1, q.2.2.2.2.2.2.2.1, q.2.2.2.2.2.2.2.2.1, q.2.2.2.2.2.2.2.2.2.1, q.2.2.2.2.2.2.2.2.2.2.1, q.2.2.2.2.2.2.2.2.2.2.2.1, q.2.2.2.2.2.2.2.2.2.2.2.2.1, q.2.2.2.2.2.2.2.2.2.2.2.2.2.1, q.2.2.2.2.2.2.2.2.2.2.2.2.2.2)) (by rw [cpF_0]) ?_
  exact lp_copy_mk 65 0 (by omega)
set_option maxRecDepth 100000 in
theorem lp_copy_km   : ∀ (k tq : Nat), tq + k = 65 → xGo X false (d + 0) 0 0 mX7_copyAll 2 [some (.ref 64), some (.ref 63), some (.int (nI tq))] [] (hp lk o (cpF tq q.1 mf) wf q) (fun v h' => v = [] ∧ h' = hp lk o (cpF 65 q.1 mf) wf q) := by
  intro k
  induction k with
  | zero =>
    intro tq ht
    have etq : tq = 65 := by omega
    subst etq
    refine xg_iload_n (pc := 2) dX7_copyAll_2 rfl ?_
    refine xg_bipush (v := 65) (pc := 3) dX7_copyAll_3 (by decide) ?_
    refine xg_icmp_ge (pc := 5) (tgt := 20) dX7_copyAll_5 (by decide) (fun c_5 => ?_) (fun c_5 => absurd c_5 (by decide))
    exact xg_ret (pc := 20) dX7_copyAll_20 rfl (⟨rfl, rfl⟩)
  | succ k ih =>
    intro tq ht
    refine xg_iload_n (pc := 2) dX7_copyAll_2 rfl ?_
    refine xg_bipush (v := 65) (pc := 3) dX7_copyAll_3 (by decide) ?_
    refine xg_icmp_ge (pc := 5) (tgt := 20) dX7_copyAll_5 (by decide) (fun c_5 => absurd c_5 (nI_ge (b := 65) (by omega) (by omega))) (fun c_5 => ?_)
    refine xg_aload_n (pc := 8) dX7_copyAll_8 rfl ?_
    refine xg_iload_n (pc := 9) dX7_copyAll_9 rfl ?_
    refine xg_aload_n (pc := 10) dX7_copyAll_10 rfl ?_
    refine xg_iload_n (pc := 11) dX7_copyAll_11 rfl ?_
    refine xg_iald (pc := 12) tq dX7_copyAll_12 hp_64 rfl (by omega) (by decide) ?_
    refine xg_iast (pc := 13) (h' := hp lk o (upd (cpF tq q.1 mf) tq (q.1 tq)) wf q) tq dX7_copyAll_13 hp_63 rfl (by omega) (by decide) hs_mf ?_
    refine xg_iinc (pc := 14) (y := nI (tq + 1)) (ls' := [some (.ref 64), some (.ref 63), some (.int (nI (tq + 1)))]) dX7_copyAll_14 rfl (xinc _) (by decide) rfl ?_
    refine xg_goto (pc := 17) (tgt := 2) dX7_copyAll_17 (by decide) ?_
    refine xg_eqh (h' := hp lk o (cpF (tq + 1) q.1 mf) wf q) (by rw [cpF_s]) ?_
    exact ih (tq + 1) (by omega)
set_option maxRecDepth 100000 in
theorem ev_copy_km  : xDv X false (d + 0) mX7_copyAll [.ref 64, .ref 63] (hp lk o mf wf q) [] (hp lk o (cpF 65 q.1 mf) wf q) := by
  refine xDv.of (ls := [some (.ref 64), some (.ref 63), none]) mcX7_copyAll.1.2.2.2.2 (Nat.le_of_ble_eq_true rfl) rfl ?_
  refine xg_iconst (v := 0) (pc := 0) dX7_copyAll_0 (by decide) ?_
  refine xg_istore_n (pc := 1) (ls' := [some (.ref 64), some (.ref 63), some (.int 0)]) dX7_copyAll_1 (by decide) rfl ?_
  refine xg_eqh (h' := hp lk o (cpF 0 q.1 mf) wf q) (by rw [cpF_0]) ?_
  exact lp_copy_km 65 0 (by omega)
set_option maxRecDepth 100000 in
theorem ev_X7_thinks  : xDv X false (d + 1) mX7_thinks [.ref 62] (hp lk o mf wf q) [] (hp lk o mf (cpF 65 mf wf) q) := by
  refine xDv.of (ls := [some (.ref 62)]) mcX7_thinks.1.2.2.2.2 (Nat.le_of_ble_eq_true rfl) rfl ?_
  refine xg_aload_n (pc := 0) dX7_thinks_0 rfl ?_
  refine xg_get (pc := 1) dX7_thinks_1 flX7_9 hp_62 rfl ?_
  refine xg_aload_n (pc := 4) dX7_thinks_4 rfl ?_
  refine xg_get (pc := 5) dX7_thinks_5 flX7_16 hp_62 rfl ?_
  refine xg_csV (pc := 8) (h1 := hp lk o mf (cpF 65 mf wf) q) (M' := mX7_copyAll) dX7_thinks_8 lkX7_143 mcX7_copyAll (ev_copy_mw) rfl rfl (Nat.le_of_ble_eq_true rfl) ?_
  exact xg_ret (pc := 11) dX7_thinks_11 rfl (⟨rfl, rfl⟩)
set_option maxRecDepth 100000 in
theorem ev_X7_putsBack  : xDv X false (d + 1) mX7_putsBack [.ref 62] (hp lk o mf wf q) [] (hp lk o (cpF 65 wf mf) wf q) := by
  refine xDv.of (ls := [some (.ref 62)]) mcX7_putsBack.1.2.2.2.2 (Nat.le_of_ble_eq_true rfl) rfl ?_
  refine xg_aload_n (pc := 0) dX7_putsBack_0 rfl ?_
  refine xg_get (pc := 1) dX7_putsBack_1 flX7_16 hp_62 rfl ?_
  refine xg_aload_n (pc := 4) dX7_putsBack_4 rfl ?_
  refine xg_get (pc := 5) dX7_putsBack_5 flX7_9 hp_62 rfl ?_
  refine xg_csV (pc := 8) (h1 := hp lk o (cpF 65 wf mf) wf q) (M' := mX7_copyAll) dX7_putsBack_8 lkX7_143 mcX7_copyAll (ev_copy_wm) rfl rfl (Nat.le_of_ble_eq_true rfl) ?_
  exact xg_ret (pc := 11) dX7_putsBack_11 rfl (⟨rfl, rfl⟩)
end
