section
variable {X : xS} {d : Nat} {lk : Nat → Nat → Int32} {o : xO} {mf wf : Nat → Int32} {q : xQ}
set_option maxRecDepth 100000 in
theorem ev_X7_takesOf {b : Nat} (ok : okM mf) (hb : b < nB mf) : xDv X false (d + 4) mX7_takesOf [.ref 62, .int (nI b)] (hp lk o mf wf q) [.int (tkR mf b)] (hp lk o mf wf q) := by
  have h5 := ok.1.2.2.2
  refine xDv.of (ls := [some (.ref 62), some (.int (nI b)), none]) mcX7_takesOf.1.2.2.2.2 (Nat.le_of_ble_eq_true rfl) rfl ?_
  refine xg_aload_n (pc := 0) dX7_takesOf_0 rfl ?_
  refine xg_iload_n (pc := 1) dX7_takesOf_1 rfl ?_
  refine xg_iconst (v := 1) (pc := 2) dX7_takesOf_2 (by decide) ?_
  refine xg_cvI (pc := 3) (h1 := hp lk o mf wf q) (x := mf (45 + 4 * b + 1)) (M' := mX7_has) dX7_takesOf_3 lkX7_77 mcX7_has hp_62 rfl (ev_X7_has (j := b) (w := 1) (by omega)) rfl rfl (Nat.le_of_ble_eq_true rfl) ?_
  refine xg_iconst (v := 0) (pc := 6) dX7_takesOf_6 (by decide) ?_
  refine xg_sipush (v := 999) (pc := 7) dX7_takesOf_7 (by decide) ?_
  refine xg_aload_n (pc := 10) dX7_takesOf_10 rfl ?_
  refine xg_iload_n (pc := 11) dX7_takesOf_11 rfl ?_
  refine xg_iconst (v := 2) (pc := 12) dX7_takesOf_12 (by decide) ?_
  refine xg_cvI (pc := 13) (h1 := hp lk o mf wf q) (x := mf (45 + 4 * b + 2)) (M' := mX7_has) dX7_takesOf_13 lkX7_77 mcX7_has hp_62 rfl (ev_X7_has (j := b) (w := 2) (by omega)) rfl rfl (Nat.le_of_ble_eq_true rfl) ?_
  refine xg_isub (pc := 16) dX7_takesOf_16 ?_
  refine xg_csI (pc := 17) (h1 := hp lk o mf wf q) (x := cl3 (mf (45 + 4 * b + 1)) 0 (999 - (mf (45 + 4 * b + 2)))) (M' := mX7_held) dX7_takesOf_17 lkX7_56 mcX7_held (ev_X7_held) rfl rfl (Nat.le_of_ble_eq_true rfl) ?_
  refine xg_istore_n (pc := 20) (ls' := [some (.ref 62), some (.int (nI b)), some (.int (cl3 (mf (45 + 4 * b + 1)) 0 (999 - (mf (45 + 4 * b + 2)))))]) dX7_takesOf_20 (by decide) rfl ?_
  refine xg_aload_n (pc := 21) dX7_takesOf_21 rfl ?_
  refine xg_aload_n (pc := 22) dX7_takesOf_22 rfl ?_
  refine xg_iload_n (pc := 23) dX7_takesOf_23 rfl ?_
  refine xg_iconst (v := 0) (pc := 24) dX7_takesOf_24 (by decide) ?_
  refine xg_cvI (pc := 25) (h1 := hp lk o mf wf q) (x := mf (45 + 4 * b)) (M' := mX7_has) dX7_takesOf_25 lkX7_77 mcX7_has hp_62 rfl (ev_X7_has (j := b) (w := 0) (by omega)) rfl rfl (Nat.le_of_ble_eq_true rfl) ?_
  refine xg_cvI (pc := 28) (h1 := hp lk o mf wf q) (x := glR mf (mf (45 + 4 * b))) (M' := mX7_glintOf) dX7_takesOf_28 lkX7_86 mcX7_glintOf hp_62 rfl (ev_X7_glintOf ok.1 (ok.2 b hb)) rfl rfl (Nat.le_of_ble_eq_true rfl) ?_
  refine xg_iconst (v := 0) (pc := 31) dX7_takesOf_31 (by decide) ?_
  refine xg_iload_n (pc := 32) dX7_takesOf_32 rfl ?_
  refine xg_csI (pc := 33) (h1 := hp lk o mf wf q) (x := cl3 (glR mf (mf (45 + 4 * b))) 0 (cl3 (mf (45 + 4 * b + 1)) 0 (999 - (mf (45 + 4 * b + 2))))) (M' := mX7_held) dX7_takesOf_33 lkX7_56 mcX7_held (ev_X7_held) rfl rfl (Nat.le_of_ble_eq_true rfl) ?_
  exact xg_iret (pc := 36) dX7_takesOf_36 rfl (⟨by rfl, rfl⟩)
set_option maxRecDepth 100000 in
theorem ev_X7_pays {b : Nat} {c : Int32} (hb : b < 5) : xDv X false (d + 1) mX7_pays [.ref 62, .int (nI b), .int c] (hp lk o mf wf q) [] (hp lk o (payR mf b c) wf q) := by
  refine xDv.of (ls := [some (.ref 62), some (.int (nI b)), some (.int c)]) mcX7_pays.1.2.2.2.2 (Nat.le_of_ble_eq_true rfl) rfl ?_
  refine xg_aload_n (pc := 0) dX7_pays_0 rfl ?_
  refine xg_iload_n (pc := 1) dX7_pays_1 rfl ?_
  refine xg_iconst (v := 3) (pc := 2) dX7_pays_2 (by decide) ?_
  refine xg_aload_n (pc := 3) dX7_pays_3 rfl ?_
  refine xg_iload_n (pc := 4) dX7_pays_4 rfl ?_
  refine xg_iconst (v := 3) (pc := 5) dX7_pays_5 (by decide) ?_
  refine xg_cvI (pc := 6) (h1 := hp lk o mf wf q) (x := mf (45 + 4 * b + 3)) (M' := mX7_has) dX7_pays_6 lkX7_77 mcX7_has hp_62 rfl (ev_X7_has (j := b) (w := 3) (by omega)) rfl rfl (Nat.le_of_ble_eq_true rfl) ?_
  refine xg_iload_n (pc := 9) dX7_pays_9 rfl ?_
  refine xg_iadd (pc := 10) dX7_pays_10 ?_
  refine xg_ldc (v := -99999) (pc := 11) dX7_pays_11 ccX7_123 ?_
  refine xg_ldc (v := 99999) (pc := 13) dX7_pays_13 ccX7_124 ?_
  refine xg_csI (pc := 15) (h1 := hp lk o mf wf q) (x := cl3 ((mf (45 + 4 * b + 3)) + c) (-99999) 99999) (M' := mX7_held) dX7_pays_15 lkX7_56 mcX7_held (ev_X7_held) rfl rfl (Nat.le_of_ble_eq_true rfl) ?_
  refine xg_cvV (pc := 18) (h1 := hp lk o (upd mf (45 + 4 * b + 3) (cl3 ((mf (45 + 4 * b + 3)) + c) (-99999) 99999)) wf q) (M' := mX7_gets) dX7_pays_18 lkX7_110 mcX7_gets hp_62 rfl (ev_X7_gets (j := b) (w := 3) (by omega)) rfl rfl (Nat.le_of_ble_eq_true rfl) ?_
  exact xg_ret (pc := 21) dX7_pays_21 rfl (⟨rfl, rfl⟩)
set_option maxRecDepth 100000 in
theorem lp_X7_takes {c x1 x2 : Int32} (ok : okN mf) : ∀ (k tq : Nat), tq + k = nT mf → xGo X false (d + 5) 0 0 mX7_takes 46 [some (.ref 62), some (.int x1), some (.int x2), some (.int c), some (.int (nI tq))] [] (hp lk o (itF (dimR c) tq mf) wf q) (fun v h' => v = [] ∧ h' = hp lk o (itF (dimR c) (nT mf) mf) wf q) := by
  intro k
  induction k with
  | zero =>
    intro tq ht
    have h8 := ok.2.1
    have e3q : itF (dimR c) tq mf 3 = nI (nT mf) := (sameM.it _ _ (fun j hj g => dimR_s (by omega) g)).2.1.trans ok.1
    have etq : tq = nT mf := by omega
    subst etq
    refine xg_iload (pc := 46) dX7_takes_46 rfl ?_
    refine xg_aload_n (pc := 48) dX7_takes_48 rfl ?_
    refine xg_get (pc := 49) dX7_takes_49 flX7_9 hp_62 rfl ?_
    refine xg_iconst (v := 3) (pc := 52) dX7_takes_52 (by decide) ?_
    refine xg_iald (pc := 53) 3 dX7_takes_53 hp_63 (by simp only [xlit, nI_add, pk_mul]) (by omega) (by decide) ?_
    refine xg_eq e3q ?_
    refine xg_icmp_ge (pc := 54) (tgt := 101) dX7_takes_54 (by decide) (fun c_54 => ?_) (fun c_54 => absurd c_54 (fun q => q (nI_le (by omega) (by omega))))
    exact xg_ret (pc := 101) dX7_takes_101 rfl (⟨rfl, rfl⟩)
  | succ k ih =>
    intro tq ht
    have h8 := ok.2.1
    have e3q : itF (dimR c) tq mf 3 = nI (nT mf) := (sameM.it _ _ (fun j hj g => dimR_s (by omega) g)).2.1.trans ok.1
    refine xg_iload (pc := 46) dX7_takes_46 rfl ?_
    refine xg_aload_n (pc := 48) dX7_takes_48 rfl ?_
    refine xg_get (pc := 49) dX7_takes_49 flX7_9 hp_62 rfl ?_
    refine xg_iconst (v := 3) (pc := 52) dX7_takes_52 (by decide) ?_
    refine xg_iald (pc := 53) 3 dX7_takes_53 hp_63 (by simp only [xlit, nI_add, pk_mul]) (by omega) (by decide) ?_
    refine xg_eq e3q ?_
    refine xg_icmp_ge (pc := 54) (tgt := 101) dX7_takes_54 (by decide) (fun c_54 => absurd c_54 (nI_ge (by omega) (by omega))) (fun c_54 => ?_)
    refine xg_aload_n (pc := 57) dX7_takes_57 rfl ?_
    refine xg_iload (pc := 58) dX7_takes_58 rfl ?_
    refine xg_iload_n (pc := 60) dX7_takes_60 rfl ?_
    refine xg_cvI (pc := 61) (h1 := hp lk o (itF (dimR c) tq mf) wf q) (x := if mirR (itF (dimR c) tq mf) tq c then 1 else 0) (M' := mX7_isMirrored) dX7_takes_61 lkX7_63 mcX7_isMirrored hp_62 rfl (ev_X7_isMirrored (t := tq) (by omega)) rfl rfl (Nat.le_of_ble_eq_true rfl) ?_
    refine xg_bz (pc := 64) (tgt := 95) dX7_takes_64 (by decide) (fun c_64 => ?_) (fun c_64 => ?_)
    ·
      refine xg_iinc (pc := 95) (y := nI (tq + 1)) (ls' := [some (.ref 62), some (.int x1), some (.int x2), some (.int c), some (.int (nI (tq + 1)))]) dX7_takes_95 rfl (xinc _) (by decide) rfl ?_
      refine xg_goto (pc := 98) (tgt := 46) dX7_takes_98 (by decide) ?_
      refine xg_eqh (h' := hp lk o (itF (dimR c) (tq + 1) mf) wf q) (by first | rw [itF, dimR, if_pos c_64] | rw [itF, dimR, if_neg c_64]) ?_
      exact ih (tq + 1) (by omega)
    ·
      refine xg_aload_n (pc := 67) dX7_takes_67 rfl ?_
      refine xg_get (pc := 68) dX7_takes_68 flX7_9 hp_62 rfl ?_
      refine xg_iconst (v := 5) (pc := 71) dX7_takes_71 (by decide) ?_
      refine xg_iconst (v := 5) (pc := 72) dX7_takes_72 (by decide) ?_
      refine xg_iload (pc := 73) dX7_takes_73 rfl ?_
      refine xg_imul (pc := 75) dX7_takes_75 ?_
      refine xg_iadd (pc := 76) dX7_takes_76 ?_
      refine xg_iconst (v := 3) (pc := 77) dX7_takes_77 (by decide) ?_
      refine xg_iadd (pc := 78) dX7_takes_78 ?_
      refine xg_aload_n (pc := 79) dX7_takes_79 rfl ?_
      refine xg_iload (pc := 80) dX7_takes_80 rfl ?_
      refine xg_iconst (v := 3) (pc := 82) dX7_takes_82 (by decide) ?_
      refine xg_cvI (pc := 83) (h1 := hp lk o (itF (dimR c) tq mf) wf q) (x := (itF (dimR c) tq mf) (5 + 5 * tq + 3)) (M' := mX7_lit) dX7_takes_83 lkX7_52 mcX7_lit hp_62 rfl (ev_X7_lit (t := tq) (w := 3) (by omega)) rfl rfl (Nat.le_of_ble_eq_true rfl) ?_
      refine xg_iconst (v := 1) (pc := 86) dX7_takes_86 (by decide) ?_
      refine xg_isub (pc := 87) dX7_takes_87 ?_
      refine xg_iconst (v := 0) (pc := 88) dX7_takes_88 (by decide) ?_
      refine xg_bipush (v := 99) (pc := 89) dX7_takes_89 (by decide) ?_
      refine xg_csI (pc := 91) (h1 := hp lk o (itF (dimR c) tq mf) wf q) (x := cl3 (((itF (dimR c) tq mf) (5 + 5 * tq + 3)) - 1) 0 99) (M' := mX7_held) dX7_takes_91 lkX7_56 mcX7_held (ev_X7_held) rfl rfl (Nat.le_of_ble_eq_true rfl) ?_
      refine xg_iast (pc := 94) (h' := hp lk o (upd (itF (dimR c) tq mf) (5 + 5 * tq + 3) (cl3 (((itF (dimR c) tq mf) (5 + 5 * tq + 3)) - 1) 0 99)) wf q) (5 + 5 * tq + 3) dX7_takes_94 hp_63 (by simp only [xlit, nI_add, pk_mul]) (by omega) (by decide) hs_mf ?_
      refine xg_iinc (pc := 95) (y := nI (tq + 1)) (ls' := [some (.ref 62), some (.int x1), some (.int x2), some (.int c), some (.int (nI (tq + 1)))]) dX7_takes_95 rfl (xinc _) (by decide) rfl ?_
      refine xg_goto (pc := 98) (tgt := 46) dX7_takes_98 (by decide) ?_
      refine xg_eqh (h' := hp lk o (itF (dimR c) (tq + 1) mf) wf q) (by first | rw [itF, dimR, if_pos c_64] | rw [itF, dimR, if_neg c_64]) ?_
      exact ih (tq + 1) (by omega)
set_option maxRecDepth 100000 in
theorem ev_X7_takes {b : Nat} (ok : okM mf) (hb : b < nB mf) : xDv X false (d + 5) mX7_takes [.ref 62, .int (nI b)] (hp lk o mf wf q) [] (hp lk o (takR b mf) wf q) := by
  have h5 := ok.1.2.2.2
  refine xDv.of (ls := [some (.ref 62), some (.int (nI b)), none, none, none]) mcX7_takes.1.2.2.2.2 (Nat.le_of_ble_eq_true rfl) rfl ?_
  refine xg_aload_n (pc := 0) dX7_takes_0 rfl ?_
  refine xg_iload_n (pc := 1) dX7_takes_1 rfl ?_
  refine xg_cvI (pc := 2) (h1 := hp lk o mf wf q) (x := tkR mf b) (M' := mX7_takesOf) dX7_takes_2 lkX7_120 mcX7_takesOf hp_62 rfl (ev_X7_takesOf (b := b) ok hb) rfl rfl (Nat.le_of_ble_eq_true rfl) ?_
  refine xg_istore_n (pc := 5) (ls' := [some (.ref 62), some (.int (nI b)), some (.int (tkR mf b)), none, none]) dX7_takes_5 (by decide) rfl ?_
  refine xg_iload_n (pc := 6) dX7_takes_6 rfl ?_
  refine xg_if_ne (pc := 7) (tgt := 11) dX7_takes_7 (by decide) (fun c_7 => ?_) (fun c_7 => ?_)
  ·
    refine xg_aload_n (pc := 11) dX7_takes_11 rfl ?_
    refine xg_iload_n (pc := 12) dX7_takes_12 rfl ?_
    refine xg_iconst (v := 0) (pc := 13) dX7_takes_13 (by decide) ?_
    refine xg_cvI (pc := 14) (h1 := hp lk o mf wf q) (x := mf (45 + 4 * b)) (M' := mX7_has) dX7_takes_14 lkX7_77 mcX7_has hp_62 rfl (ev_X7_has (j := b) (w := 0) (by omega)) rfl rfl (Nat.le_of_ble_eq_true rfl) ?_
    refine xg_istore_n (pc := 17) (ls' := [some (.ref 62), some (.int (nI b)), some (.int (tkR mf b)), some (.int (mf (45 + 4 * b))), none]) dX7_takes_17 (by decide) rfl ?_
    refine xg_aload_n (pc := 18) dX7_takes_18 rfl ?_
    refine xg_iload_n (pc := 19) dX7_takes_19 rfl ?_
    refine xg_iconst (v := 2) (pc := 20) dX7_takes_20 (by decide) ?_
    refine xg_aload_n (pc := 21) dX7_takes_21 rfl ?_
    refine xg_iload_n (pc := 22) dX7_takes_22 rfl ?_
    refine xg_iconst (v := 2) (pc := 23) dX7_takes_23 (by decide) ?_
    refine xg_cvI (pc := 24) (h1 := hp lk o mf wf q) (x := mf (45 + 4 * b + 2)) (M' := mX7_has) dX7_takes_24 lkX7_77 mcX7_has hp_62 rfl (ev_X7_has (j := b) (w := 2) (by omega)) rfl rfl (Nat.le_of_ble_eq_true rfl) ?_
    refine xg_iload_n (pc := 27) dX7_takes_27 rfl ?_
    refine xg_iadd (pc := 28) dX7_takes_28 ?_
    refine xg_cvV (pc := 29) (h1 := hp lk o (upd mf (45 + 4 * b + 2) ((mf (45 + 4 * b + 2)) + (tkR mf b))) wf q) (M' := mX7_gets) dX7_takes_29 lkX7_110 mcX7_gets hp_62 rfl (ev_X7_gets (j := b) (w := 2) (by omega)) rfl rfl (Nat.le_of_ble_eq_true rfl) ?_
    refine xg_aload_n (pc := 32) dX7_takes_32 rfl ?_
    refine xg_iload_n (pc := 33) dX7_takes_33 rfl ?_
    refine xg_aload_n (pc := 34) dX7_takes_34 rfl ?_
    refine xg_iload_n (pc := 35) dX7_takes_35 rfl ?_
    refine xg_cvI (pc := 36) (h1 := hp lk o (upd mf (45 + 4 * b + 2) ((mf (45 + 4 * b + 2)) + (tkR mf b))) wf q) (x := sumI (tR (upd mf (45 + 4 * b + 2) ((mf (45 + 4 * b + 2)) + (tkR mf b))) (mf (45 + 4 * b))) (nT (upd mf (45 + 4 * b + 2) ((mf (45 + 4 * b + 2)) + (tkR mf b))))) (M' := mX7_taxAt) dX7_takes_36 lkX7_95 mcX7_taxAt hp_62 rfl (ev_X7_taxAt (ok.1.of (hldR_s mf).2.1 (hldR_s mf).2.2.1)) rfl rfl (Nat.le_of_ble_eq_true rfl) ?_
    refine xg_ineg (pc := 39) dX7_takes_39 ?_
    refine xg_cvV (pc := 40) (h1 := hp lk o (payR (upd mf (45 + 4 * b + 2) ((mf (45 + 4 * b + 2)) + (tkR mf b))) b (-(sumI (tR (upd mf (45 + 4 * b + 2) ((mf (45 + 4 * b + 2)) + (tkR mf b))) (mf (45 + 4 * b))) (nT (upd mf (45 + 4 * b + 2) ((mf (45 + 4 * b + 2)) + (tkR mf b))))))) wf q) (M' := mX7_pays) dX7_takes_40 lkX7_125 mcX7_pays hp_62 rfl (ev_X7_pays (b := b) (by omega)) rfl rfl (Nat.le_of_ble_eq_true rfl) ?_
    refine xg_iconst (v := 0) (pc := 43) dX7_takes_43 (by decide) ?_
    refine xg_istore (pc := 44) (ls' := [some (.ref 62), some (.int (nI b)), some (.int (tkR mf b)), some (.int (mf (45 + 4 * b))), some (.int 0)]) dX7_takes_44 (by decide) rfl ?_
    refine xg_mono (fun v h' q => ?_) (lp_X7_takes (mf := tpR b mf) (ok.1.of (tpR_s mf).2.1 (tpR_s mf).2.2.1) (nT (tpR b mf)) 0 (by omega))
    rw [takR, if_neg c_7]; exact q
  ·
    exact xg_ret (pc := 10) dX7_takes_10 rfl (⟨rfl, by rw [takR, if_pos c_7]⟩)
end
