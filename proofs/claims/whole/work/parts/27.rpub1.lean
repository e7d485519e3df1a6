section
variable {X : xS} {d : Nat} {lk : Nat → Nat → Int32} {o : xO} {mf wf : Nat → Int32} {q : xQ}
theorem ev_isT {t : Int32} (ok : okN mf) : xDv X false (d + 1) mX7_isThing [.ref 62, .int t] (hp lk o mf wf q) [.int (if 0 ≤ t ∧ t < mf 3 then 1 else 0)] (hp lk o mf wf q) := by
  refine ev_X7_isThing.eq ?_ rfl
  simp only [isT_iff ok]
theorem ev_isB {t : Int32} (ok : okN mf) : xDv X false (d + 1) mX7_isBoat [.ref 62, .int t] (hp lk o mf wf q) [.int (if 0 ≤ t ∧ t < mf 4 then 1 else 0)] (hp lk o mf wf q) := by
  refine ev_X7_isBoat.eq ?_ rfl
  simp only [isB_iff ok]
set_option maxRecDepth 100000 in
theorem ev_X7_mayBe {w v : Int32} : xDv X false (d + 1) mX7_mayBe [.int w, .int v] (hp lk o mf wf q) [.int (if may w v then 1 else 0)] (hp lk o mf wf q) := by
  refine xDv.of (ls := [some (.int w), some (.int v)]) mcX7_mayBe.1.2.2.2.2 (Nat.le_of_ble_eq_true rfl) rfl ?_
  refine xg_iload_n (pc := 0) dX7_mayBe_0 rfl ?_
  by_cases w1_1 : w = 1
  ·
    refine xg_tswI (pc := 1) 0 (tgt := 32) dX7_mayBe_1 (by rw [w1_1]; rfl) (by decide) rfl (by decide) ?_
    refine xg_iload_n (pc := 32) dX7_mayBe_32 rfl ?_
    refine xg_i2l (pc := 33) dX7_mayBe_33 ?_
    refine xg_iconst (v := 0) (pc := 34) dX7_mayBe_34 (by decide) ?_
    refine xg_bipush (v := 7) (pc := 35) dX7_mayBe_35 (by decide) ?_
    refine xg_csI (pc := 37) (h1 := hp lk o mf wf q) (x := if 0 ≤ v ∧ v ≤ 7 then 1 else 0) (M' := mX7_in) dX7_mayBe_37 lkX7_48 mcX7_in (ev_in) rfl rfl (Nat.le_of_ble_eq_true rfl) ?_
    exact xg_zret (pc := 40) (ty := .boolean) dX7_mayBe_40 rfl (by split <;> rfl) (⟨by simp [may, *], rfl⟩)
  by_cases w1_2 : w = 2
  ·
    refine xg_tswI (pc := 1) 1 (tgt := 41) dX7_mayBe_1 (by rw [w1_2]; rfl) (by decide) rfl (by decide) ?_
    refine xg_iload_n (pc := 41) dX7_mayBe_41 rfl ?_
    refine xg_i2l (pc := 42) dX7_mayBe_42 ?_
    refine xg_iconst (v := 1) (pc := 43) dX7_mayBe_43 (by decide) ?_
    refine xg_bipush (v := 6) (pc := 44) dX7_mayBe_44 (by decide) ?_
    refine xg_csI (pc := 46) (h1 := hp lk o mf wf q) (x := if 1 ≤ v ∧ v ≤ 6 then 1 else 0) (M' := mX7_in) dX7_mayBe_46 lkX7_48 mcX7_in (ev_in) rfl rfl (Nat.le_of_ble_eq_true rfl) ?_
    exact xg_zret (pc := 49) (ty := .boolean) dX7_mayBe_49 rfl (by split <;> rfl) (⟨by simp [may, *], rfl⟩)
  by_cases w1_3 : w = 3
  ·
    refine xg_tswI (pc := 1) 2 (tgt := 50) dX7_mayBe_1 (by rw [w1_3]; rfl) (by decide) rfl (by decide) ?_
    refine xg_iload_n (pc := 50) dX7_mayBe_50 rfl ?_
    refine xg_i2l (pc := 51) dX7_mayBe_51 ?_
    refine xg_iconst (v := 0) (pc := 52) dX7_mayBe_52 (by decide) ?_
    refine xg_bipush (v := 99) (pc := 53) dX7_mayBe_53 (by decide) ?_
    refine xg_csI (pc := 55) (h1 := hp lk o mf wf q) (x := if 0 ≤ v ∧ v ≤ 99 then 1 else 0) (M' := mX7_in) dX7_mayBe_55 lkX7_48 mcX7_in (ev_in) rfl rfl (Nat.le_of_ble_eq_true rfl) ?_
    exact xg_zret (pc := 58) (ty := .boolean) dX7_mayBe_58 rfl (by split <;> rfl) (⟨by simp [may, *], rfl⟩)
  by_cases w1_4 : w = 4
  ·
    refine xg_tswI (pc := 1) 3 (tgt := 59) dX7_mayBe_1 (by rw [w1_4]; rfl) (by decide) rfl (by decide) ?_
    refine xg_iload_n (pc := 59) dX7_mayBe_59 rfl ?_
    refine xg_i2l (pc := 60) dX7_mayBe_60 ?_
    refine xg_iconst (v := 0) (pc := 61) dX7_mayBe_61 (by decide) ?_
    refine xg_bipush (v := 9) (pc := 62) dX7_mayBe_62 (by decide) ?_
    refine xg_csI (pc := 64) (h1 := hp lk o mf wf q) (x := if 0 ≤ v ∧ v ≤ 9 then 1 else 0) (M' := mX7_in) dX7_mayBe_64 lkX7_48 mcX7_in (ev_in) rfl rfl (Nat.le_of_ble_eq_true rfl) ?_
    exact xg_zret (pc := 67) (ty := .boolean) dX7_mayBe_67 rfl (by split <;> rfl) (⟨by simp [may, *], rfl⟩)
  refine xg_tswO (pc := 1) (tgt := 68) dX7_mayBe_1 (by have := lv_neT (a := 1) w1_1 (by decide); have := lv_neT (a := 2) w1_2 (by decide); have := lv_neT (a := 3) w1_3 (by decide); have := lv_neT (a := 4) w1_4 (by decide); omega) (by decide) ?_
  refine xg_iconst (v := 0) (pc := 68) dX7_mayBe_68 (by decide) ?_
  exact xg_zret (pc := 69) (ty := .boolean) dX7_mayBe_69 rfl rfl (⟨by simp [may, *], rfl⟩)
theorem ev_may1 {v : Int32} : xDv X false (d + 1) mX7_mayBe [.int 1, .int v] (hp lk o mf wf q) [.int (if 0 ≤ v ∧ v ≤ 7 then 1 else 0)] (hp lk o mf wf q) := ev_X7_mayBe.eq (by simp [may]) rfl
theorem ev_may2 {v : Int32} : xDv X false (d + 1) mX7_mayBe [.int 2, .int v] (hp lk o mf wf q) [.int (if 1 ≤ v ∧ v ≤ 6 then 1 else 0)] (hp lk o mf wf q) := ev_X7_mayBe.eq (by simp [may]) rfl
set_option maxRecDepth 100000 in
theorem ev_X7_comes {a b c e g : Int32} (ok : okN mf) (hr : nT mf < 8) : xDv X false (d + 0) mX7_comes [.ref 62, .int a, .int b, .int c, .int e, .int g] (hp lk o mf wf q) [.int (mf 3)] (hp lk o (aT mf a b c e g) wf q) := by
  refine xDv.of (ls := [some (.ref 62), some (.int a), some (.int b), some (.int c), some (.int e), some (.int g), none, none]) mcX7_comes.1.2.2.2.2 (Nat.le_of_ble_eq_true rfl) rfl ?_
  refine xg_aload_n (pc := 0) dX7_comes_0 rfl ?_
  refine xg_get (pc := 1) dX7_comes_1 flX7_9 hp_62 rfl ?_
  refine xg_iconst (v := 3) (pc := 4) dX7_comes_4 (by decide) ?_
  refine xg_iald (pc := 5) 3 dX7_comes_5 hp_63 rfl (by omega) (by decide) ?_
  refine xg_eq ok.1 ?_
  refine xg_istore (pc := 6) (ls' := [some (.ref 62), some (.int a), some (.int b), some (.int c), some (.int e), some (.int g), some (.int (nI (nT mf))), none]) dX7_comes_6 (by decide) rfl ?_
  refine xg_iconst (v := 5) (pc := 8) dX7_comes_8 (by decide) ?_
  refine xg_iconst (v := 5) (pc := 9) dX7_comes_9 (by decide) ?_
  refine xg_iload (pc := 10) dX7_comes_10 rfl ?_
  refine xg_imul (pc := 12) dX7_comes_12 ?_
  refine xg_iadd (pc := 13) dX7_comes_13 ?_
  refine xg_istore (pc := 14) (ls' := [some (.ref 62), some (.int a), some (.int b), some (.int c), some (.int e), some (.int g), some (.int (nI (nT mf))), some (.int (5 + (5 * (nI (nT mf)))))]) dX7_comes_14 (by decide) rfl ?_
  refine xg_aload_n (pc := 16) dX7_comes_16 rfl ?_
  refine xg_get (pc := 17) dX7_comes_17 flX7_9 hp_62 rfl ?_
  refine xg_iconst (v := 3) (pc := 20) dX7_comes_20 (by decide) ?_
  refine xg_dup2 (pc := 21) dX7_comes_21 rfl rfl ?_
  refine xg_iald (pc := 22) 3 dX7_comes_22 hp_63 rfl (by omega) (by decide) ?_
  refine xg_eq ok.1 ?_
  refine xg_iconst (v := 1) (pc := 23) dX7_comes_23 (by decide) ?_
  refine xg_iadd (pc := 24) dX7_comes_24 ?_
  refine xg_iast (pc := 25) (h' := hp lk o (upd mf 3 ((nI (nT mf)) + 1)) wf q) 3 dX7_comes_25 hp_63 rfl (by omega) (by decide) hs_mf ?_
  refine xg_aload_n (pc := 26) dX7_comes_26 rfl ?_
  refine xg_get (pc := 27) dX7_comes_27 flX7_9 hp_62 rfl ?_
  refine xg_iload (pc := 30) dX7_comes_30 rfl ?_
  refine xg_iload_n (pc := 32) dX7_comes_32 rfl ?_
  refine xg_iast (pc := 33) (h' := hp lk o (upd (upd mf 3 ((nI (nT mf)) + 1)) (5 + 5 * (nT mf)) a) wf q) (5 + 5 * (nT mf)) dX7_comes_33 hp_63 (by simp only [xlit, nI_add, pk_mul]) (by omega) (by decide) hs_mf ?_
  refine xg_aload_n (pc := 34) dX7_comes_34 rfl ?_
  refine xg_get (pc := 35) dX7_comes_35 flX7_9 hp_62 rfl ?_
  refine xg_iload (pc := 38) dX7_comes_38 rfl ?_
  refine xg_iconst (v := 1) (pc := 40) dX7_comes_40 (by decide) ?_
  refine xg_iadd (pc := 41) dX7_comes_41 ?_
  refine xg_iload_n (pc := 42) dX7_comes_42 rfl ?_
  refine xg_iast (pc := 43) (h' := hp lk o (upd (upd (upd mf 3 ((nI (nT mf)) + 1)) (5 + 5 * (nT mf)) a) (5 + 5 * (nT mf) + 1) b) wf q) (5 + 5 * (nT mf) + 1) dX7_comes_43 hp_63 (by simp only [xlit, nI_add, pk_mul]) (by omega) (by decide) hs_mf ?_
  refine xg_aload_n (pc := 44) dX7_comes_44 rfl ?_
  refine xg_get (pc := 45) dX7_comes_45 flX7_9 hp_62 rfl ?_
  refine xg_iload (pc := 48) dX7_comes_48 rfl ?_
  refine xg_iconst (v := 2) (pc := 50) dX7_comes_50 (by decide) ?_
  refine xg_iadd (pc := 51) dX7_comes_51 ?_
  refine xg_iload_n (pc := 52) dX7_comes_52 rfl ?_
  refine xg_iast (pc := 53) (h' := hp lk o (upd (upd (upd (upd mf 3 ((nI (nT mf)) + 1)) (5 + 5 * (nT mf)) a) (5 + 5 * (nT mf) + 1) b) (5 + 5 * (nT mf) + 2) c) wf q) (5 + 5 * (nT mf) + 2) dX7_comes_53 hp_63 (by simp only [xlit, nI_add, pk_mul]) (by omega) (by decide) hs_mf ?_
  refine xg_aload_n (pc := 54) dX7_comes_54 rfl ?_
  refine xg_get (pc := 55) dX7_comes_55 flX7_9 hp_62 rfl ?_
  refine xg_iload (pc := 58) dX7_comes_58 rfl ?_
  refine xg_iconst (v := 3) (pc := 60) dX7_comes_60 (by decide) ?_
  refine xg_iadd (pc := 61) dX7_comes_61 ?_
  refine xg_iload (pc := 62) dX7_comes_62 rfl ?_
  refine xg_iast (pc := 64) (h' := hp lk o (upd (upd (upd (upd (upd mf 3 ((nI (nT mf)) + 1)) (5 + 5 * (nT mf)) a) (5 + 5 * (nT mf) + 1) b) (5 + 5 * (nT mf) + 2) c) (5 + 5 * (nT mf) + 3) e) wf q) (5 + 5 * (nT mf) + 3) dX7_comes_64 hp_63 (by simp only [xlit, nI_add, pk_mul]) (by omega) (by decide) hs_mf ?_
  refine xg_aload_n (pc := 65) dX7_comes_65 rfl ?_
  refine xg_get (pc := 66) dX7_comes_66 flX7_9 hp_62 rfl ?_
  refine xg_iload (pc := 69) dX7_comes_69 rfl ?_
  refine xg_iconst (v := 4) (pc := 71) dX7_comes_71 (by decide) ?_
  refine xg_iadd (pc := 72) dX7_comes_72 ?_
  refine xg_iload (pc := 73) dX7_comes_73 rfl ?_
  refine xg_iast (pc := 75) (h' := hp lk o (upd (upd (upd (upd (upd (upd mf 3 ((nI (nT mf)) + 1)) (5 + 5 * (nT mf)) a) (5 + 5 * (nT mf) + 1) b) (5 + 5 * (nT mf) + 2) c) (5 + 5 * (nT mf) + 3) e) (5 + 5 * (nT mf) + 4) g) wf q) (5 + 5 * (nT mf) + 4) dX7_comes_75 hp_63 (by simp only [xlit, nI_add, pk_mul]) (by omega) (by decide) hs_mf ?_
  refine xg_iload (pc := 76) dX7_comes_76 rfl ?_
  exact xg_iret (pc := 78) dX7_comes_78 rfl (⟨by rw [ok.1], congrArg (fun m => hp lk o m wf q) (aT_alt ok).symm⟩)
set_option maxRecDepth 100000 in
theorem ev_X7_comesBoat {a b : Int32} (ok : okN mf) (hr : nB mf < 5) : xDv X false (d + 1) mX7_comesBoat [.ref 62, .int a, .int b] (hp lk o mf wf q) [.int (mf 4)] (hp lk o (aB mf a b) wf q) := by
  refine xDv.of (ls := [some (.ref 62), some (.int a), some (.int b), none]) mcX7_comesBoat.1.2.2.2.2 (Nat.le_of_ble_eq_true rfl) rfl ?_
  refine xg_aload_n (pc := 0) dX7_comesBoat_0 rfl ?_
  refine xg_get (pc := 1) dX7_comesBoat_1 flX7_9 hp_62 rfl ?_
  refine xg_iconst (v := 4) (pc := 4) dX7_comesBoat_4 (by decide) ?_
  refine xg_iald (pc := 5) 4 dX7_comesBoat_5 hp_63 rfl (by omega) (by decide) ?_
  refine xg_eq ok.2.2.1 ?_
  refine xg_istore_n (pc := 6) (ls' := [some (.ref 62), some (.int a), some (.int b), some (.int (nI (nB mf)))]) dX7_comesBoat_6 (by decide) rfl ?_
  refine xg_aload_n (pc := 7) dX7_comesBoat_7 rfl ?_
  refine xg_get (pc := 8) dX7_comesBoat_8 flX7_9 hp_62 rfl ?_
  refine xg_iconst (v := 4) (pc := 11) dX7_comesBoat_11 (by decide) ?_
  refine xg_dup2 (pc := 12) dX7_comesBoat_12 rfl rfl ?_
  refine xg_iald (pc := 13) 4 dX7_comesBoat_13 hp_63 rfl (by omega) (by decide) ?_
  refine xg_eq ok.2.2.1 ?_
  refine xg_iconst (v := 1) (pc := 14) dX7_comesBoat_14 (by decide) ?_
  refine xg_iadd (pc := 15) dX7_comesBoat_15 ?_
  refine xg_iast (pc := 16) (h' := hp lk o (upd mf 4 ((nI (nB mf)) + 1)) wf q) 4 dX7_comesBoat_16 hp_63 rfl (by omega) (by decide) hs_mf ?_
  refine xg_aload_n (pc := 17) dX7_comesBoat_17 rfl ?_
  refine xg_iload_n (pc := 18) dX7_comesBoat_18 rfl ?_
  refine xg_iconst (v := 0) (pc := 19) dX7_comesBoat_19 (by decide) ?_
  refine xg_iload_n (pc := 20) dX7_comesBoat_20 rfl ?_
  refine xg_cvV (pc := 21) (h1 := hp lk o (upd (upd mf 4 ((nI (nB mf)) + 1)) (45 + 4 * (nB mf) + 0) a) wf q) (M' := mX7_gets) dX7_comesBoat_21 lkX7_110 mcX7_gets hp_62 rfl (ev_X7_gets (j := nB mf) (w := 0) (by omega)) rfl rfl (Nat.le_of_ble_eq_true rfl) ?_
  refine xg_aload_n (pc := 24) dX7_comesBoat_24 rfl ?_
  refine xg_iload_n (pc := 25) dX7_comesBoat_25 rfl ?_
  refine xg_iconst (v := 1) (pc := 26) dX7_comesBoat_26 (by decide) ?_
  refine xg_iload_n (pc := 27) dX7_comesBoat_27 rfl ?_
  refine xg_cvV (pc := 28) (h1 := hp lk o (upd (upd (upd mf 4 ((nI (nB mf)) + 1)) (45 + 4 * (nB mf) + 0) a) (45 + 4 * (nB mf) + 1) b) wf q) (M' := mX7_gets) dX7_comesBoat_28 lkX7_110 mcX7_gets hp_62 rfl (ev_X7_gets (j := nB mf) (w := 1) (by omega)) rfl rfl (Nat.le_of_ble_eq_true rfl) ?_
  refine xg_aload_n (pc := 31) dX7_comesBoat_31 rfl ?_
  refine xg_iload_n (pc := 32) dX7_comesBoat_32 rfl ?_
  refine xg_iconst (v := 2) (pc := 33) dX7_comesBoat_33 (by decide) ?_
  refine xg_iconst (v := 0) (pc := 34) dX7_comesBoat_34 (by decide) ?_
  refine xg_cvV (pc := 35) (h1 := hp lk o (upd (upd (upd (upd mf 4 ((nI (nB mf)) + 1)) (45 + 4 * (nB mf) + 0) a) (45 + 4 * (nB mf) + 1) b) (45 + 4 * (nB mf) + 2) 0) wf q) (M' := mX7_gets) dX7_comesBoat_35 lkX7_110 mcX7_gets hp_62 rfl (ev_X7_gets (j := nB mf) (w := 2) (by omega)) rfl rfl (Nat.le_of_ble_eq_true rfl) ?_
  refine xg_aload_n (pc := 38) dX7_comesBoat_38 rfl ?_
  refine xg_iload_n (pc := 39) dX7_comesBoat_39 rfl ?_
  refine xg_iconst (v := 3) (pc := 40) dX7_comesBoat_40 (by decide) ?_
  refine xg_iconst (v := 0) (pc := 41) dX7_comesBoat_41 (by decide) ?_
  refine xg_cvV (pc := 42) (h1 := hp lk o (upd (upd (upd (upd (upd mf 4 ((nI (nB mf)) + 1)) (45 + 4 * (nB mf) + 0) a) (45 + 4 * (nB mf) + 1) b) (45 + 4 * (nB mf) + 2) 0) (45 + 4 * (nB mf) + 3) 0) wf q) (M' := mX7_gets) dX7_comesBoat_42 lkX7_110 mcX7_gets hp_62 rfl (ev_X7_gets (j := nB mf) (w := 3) (by omega)) rfl rfl (Nat.le_of_ble_eq_true rfl) ?_
  refine xg_iload_n (pc := 45) dX7_comesBoat_45 rfl ?_
  exact xg_iret (pc := 46) dX7_comesBoat_46 rfl (⟨by rw [ok.2.2.1], congrArg (fun m => hp lk o m wf q) (aB_alt ok).symm⟩)
set_option maxRecDepth 100000 in
set_option maxHeartbeats 4000000 in
theorem ev_X7_wind {w v : Int32}  : xEv X false (d + 2) 0 0 mX7_wind [.ref 62, .int w, .int v] (hp lk o mf wf q) (RQ lk o q (sp_wind mf w v)) := by
  refine xEv.of (ls := [some (.ref 62), some (.int w), some (.int v)]) mcX7_wind.1.2.2.2.2 (Nat.le_of_ble_eq_true rfl) rfl ?_
  refine xg_iload_n (pc := 0) dX7_wind_0 rfl ?_
  refine xg_i2l (pc := 1) dX7_wind_1 ?_
  refine xg_iconst (v := 0) (pc := 2) dX7_wind_2 (by decide) ?_
  refine xg_iconst (v := 1) (pc := 3) dX7_wind_3 (by decide) ?_
  refine xg_csI (pc := 4) (h1 := hp lk o mf wf q) (x := if 0 ≤ w ∧ w ≤ 1 then 1 else 0) (M' := mX7_in) dX7_wind_4 lkX7_48 mcX7_in (ev_in) rfl rfl (Nat.le_of_ble_eq_true rfl) ?_
  refine xg_bz (pc := 7) (tgt := 41) dX7_wind_7 (by decide) (fun c_7 => ?_) (fun c_7 => ?_)
  ·
    refine xg_aload_n (pc := 41) dX7_wind_41 rfl ?_
    refine xg_ldc (v := -1000000001) (pc := 42) dX7_wind_42 ccX7_42 ?_
    refine xg_cvI (pc := 44) (h1 := hp lk o mf wf (q.1, q.2.1, upd q.2.2.1 0 (q.2.2.1 0 + 1), q.2.2.2.1, q.2.2.2.2.1, q.2.2.2.2.2.1, q.2.2.2.2.2.2.1, q.2.2.2.2.2.2.2.1, q.2.2.2.2.2.2.2.2.1, q.2.2.2.2.2.2.2.2.2.1, q.2.2.2.2.2.2.2.2.2.2.1, q.2.2.2.2.2.2.2.2.2.2.2.1, q.2.2.2.2.2.2.2.2.2.2.2.2.1, q.2.2.2.2.2.2.2.2.2.2.2.2.2.1, q.2.2.2.2.2.2.2.2.2.2.2.2.2.2)) (x := -1000000001) (M' := mX7_finds) dX7_wind_44 lkX7_44 mcX7_finds hp_62 rfl (ev_X7_finds (j := 0) (by decide) (by decide)) rfl rfl (Nat.le_of_ble_eq_true rfl) ?_
    exact xg_iret (pc := 47) dX7_wind_47 rfl (rqR (j := (some 0)) (g := mf) (by unfold sp_wind; refine (if_neg (by first | assumption | (simp only [Int32.lt_iff_toInt_lt, Int32.le_iff_toInt_le, Int32.not_lt, Int32.not_le, ← Int32.toInt_inj, Int64.lt_iff_toInt_lt, Int64.le_iff_toInt_le, Int64.not_lt, Int64.not_le, Classical.not_not, Int32.reduceToInt, Int64.reduceToInt] at *; omega) | (simp_all; done))).trans ?_; refine (if_neg (by first | assumption | (simp only [Int32.lt_iff_toInt_lt, Int32.le_iff_toInt_le, Int32.not_lt, Int32.not_le, ← Int32.toInt_inj, Int64.lt_iff_toInt_lt, Int64.le_iff_toInt_le, Int64.not_lt, Int64.not_le, Classical.not_not, Int32.reduceToInt, Int64.reduceToInt] at *; omega) | (simp_all; done))).trans ?_; first | (with_reducible rfl) | (simp only [*, ix_0, ix_1, ix_2, ix_3, ix_4]; done) | (simp [*, ix_0, ix_1, ix_2, ix_3, ix_4]; done) | rfl | (simp_all [ix_0, ix_1, ix_2, ix_3, ix_4]; done)) eq65.rf)
  ·
    refine xg_iload_n (pc := 10) dX7_wind_10 rfl ?_
    refine xg_i2l (pc := 11) dX7_wind_11 ?_
    refine xg_iconst (v := 0) (pc := 12) dX7_wind_12 (by decide) ?_
    refine xg_iload_n (pc := 13) dX7_wind_13 rfl ?_
    refine xg_if_ne (pc := 14) (tgt := 23) dX7_wind_14 (by decide) (fun c_14 => ?_) (fun c_14 => ?_)
    ·
      refine xg_iconst (v := 1) (pc := 23) dX7_wind_23 (by decide) ?_
      refine xg_csI (pc := 24) (h1 := hp lk o mf wf q) (x := if 0 ≤ v ∧ v ≤ 1 then 1 else 0) (M' := mX7_in) dX7_wind_24 lkX7_48 mcX7_in (ev_in) rfl rfl (Nat.le_of_ble_eq_true rfl) ?_
      refine xg_bz (pc := 27) (tgt := 41) dX7_wind_27 (by decide) (fun c_27 => ?_) (fun c_27 => ?_)
      ·
        refine xg_aload_n (pc := 41) dX7_wind_41 rfl ?_
        refine xg_ldc (v := -1000000001) (pc := 42) dX7_wind_42 ccX7_42 ?_
        refine xg_cvI (pc := 44) (h1 := hp lk o mf wf (q.1, q.2.1, upd q.2.2.1 0 (q.2.2.1 0 + 1), q.2.2.2.1, q.2.2.2.2.1, q.2.2.2.2.2.1, q.2.2.2.2.2.2.1, q.2.2.2.2.2.2.2.1, q.2.2.2.2.2.2.2.2.1, q.2.2.2.2.2.2.2.2.2.1, q.2.2.2.2.2.2.2.2.2.2.1, q.2.2.2.2.2.2.2.2.2.2.2.1, q.2.2.2.2.2.2.2.2.2.2.2.2.1, q.2.2.2.2.2.2.2.2.2.2.2.2.2.1, q.2.2.2.2.2.2.2.2.2.2.2.2.2.2)) (x := -1000000001) (M' := mX7_finds) dX7_wind_44 lkX7_44 mcX7_finds hp_62 rfl (ev_X7_finds (j := 0) (by decide) (by decide)) rfl rfl (Nat.le_of_ble_eq_true rfl) ?_
        exact xg_iret (pc := 47) dX7_wind_47 rfl (rqR (j := (some 0)) (g := mf) (by unfold sp_wind; refine (if_neg (by first | assumption | (simp only [Int32.lt_iff_toInt_lt, Int32.le_iff_toInt_le, Int32.not_lt, Int32.not_le, ← Int32.toInt_inj, Int64.lt_iff_toInt_lt, Int64.le_iff_toInt_le, Int64.not_lt, Int64.not_le, Classical.not_not, Int32.reduceToInt, Int64.reduceToInt] at *; omega) | (simp_all; done))).trans ?_; refine (if_neg (by first | assumption | (simp only [Int32.lt_iff_toInt_lt, Int32.le_iff_toInt_le, Int32.not_lt, Int32.not_le, ← Int32.toInt_inj, Int64.lt_iff_toInt_lt, Int64.le_iff_toInt_le, Int64.not_lt, Int64.not_le, Classical.not_not, Int32.reduceToInt, Int64.reduceToInt] at *; omega) | (simp_all; done))).trans ?_; first | (with_reducible rfl) | (simp only [*, ix_0, ix_1, ix_2, ix_3, ix_4]; done) | (simp [*, ix_0, ix_1, ix_2, ix_3, ix_4]; done) | rfl | (simp_all [ix_0, ix_1, ix_2, ix_3, ix_4]; done)) eq65.rf)
      ·
        rcases w01 c_7 with rfl | rfl
        ·
          refine xg_aload_n (pc := 30) dX7_wind_30 rfl ?_
          refine xg_iconst (v := 1) (pc := 31) dX7_wind_31 (by decide) ?_
          refine xg_iload_n (pc := 32) dX7_wind_32 rfl ?_
          refine xg_iadd (pc := 33) dX7_wind_33 ?_
          refine xg_iload_n (pc := 34) dX7_wind_34 rfl ?_
          refine xg_eq2 (show (1 + 0 : Int32) = nI (1 + 0) from by simp only [xlit, nI_add, pk_mul]) ?_
          refine xg_cvI (pc := 35) (h1 := hp lk o (upd mf (1 + 0) v) wf q) (x := mf (1 + 0)) (M' := mX7_becomes) dX7_wind_35 lkX7_80 mcX7_becomes hp_62 rfl (ev_X7_becomes (j := (1 + 0)) (by omega)) rfl rfl (Nat.le_of_ble_eq_true rfl) ?_
          refine xg_goto (pc := 38) (tgt := 47) dX7_wind_38 (by decide) ?_
          exact xg_iret (pc := 47) dX7_wind_47 rfl (rqR (j := none) (g := upd mf (1 + 0) v) (by unfold sp_wind; refine (if_pos (by first | assumption | (simp only [Int32.lt_iff_toInt_lt, Int32.le_iff_toInt_le, Int32.not_lt, Int32.not_le, ← Int32.toInt_inj, Int64.lt_iff_toInt_lt, Int64.le_iff_toInt_le, Int64.not_lt, Int64.not_le, Classical.not_not, Int32.reduceToInt, Int64.reduceToInt] at *; omega) | (simp_all; done))).trans ?_; first | (with_reducible rfl) | (simp only [*, ix_0, ix_1, ix_2, ix_3, ix_4]; done) | (simp [*, ix_0, ix_1, ix_2, ix_3, ix_4]; done) | rfl | (simp_all [ix_0, ix_1, ix_2, ix_3, ix_4]; done)) eq65.rf)
        ·
          refine xg_aload_n (pc := 30) dX7_wind_30 rfl ?_
          refine xg_iconst (v := 1) (pc := 31) dX7_wind_31 (by decide) ?_
          refine xg_iload_n (pc := 32) dX7_wind_32 rfl ?_
          refine xg_iadd (pc := 33) dX7_wind_33 ?_
          refine xg_iload_n (pc := 34) dX7_wind_34 rfl ?_
          refine xg_eq2 (show (1 + 1 : Int32) = nI (1 + 1) from by simp only [xlit, nI_add, pk_mul]) ?_
          refine xg_cvI (pc := 35) (h1 := hp lk o (upd mf (1 + 1) v) wf q) (x := mf (1 + 1)) (M' := mX7_becomes) dX7_wind_35 lkX7_80 mcX7_becomes hp_62 rfl (ev_X7_becomes (j := (1 + 1)) (by omega)) rfl rfl (Nat.le_of_ble_eq_true rfl) ?_
          refine xg_goto (pc := 38) (tgt := 47) dX7_wind_38 (by decide) ?_
          exact xg_iret (pc := 47) dX7_wind_47 rfl (rqR (j := none) (g := upd mf (1 + 1) v) (by unfold sp_wind; refine (if_neg (by first | assumption | (simp only [Int32.lt_iff_toInt_lt, Int32.le_iff_toInt_le, Int32.not_lt, Int32.not_le, ← Int32.toInt_inj, Int64.lt_iff_toInt_lt, Int64.le_iff_toInt_le, Int64.not_lt, Int64.not_le, Classical.not_not, Int32.reduceToInt, Int64.reduceToInt] at *; omega) | (simp_all; done))).trans ?_; refine (if_pos (by first | assumption | (simp only [Int32.lt_iff_toInt_lt, Int32.le_iff_toInt_le, Int32.not_lt, Int32.not_le, ← Int32.toInt_inj, Int64.lt_iff_toInt_lt, Int64.le_iff_toInt_le, Int64.not_lt, Int64.not_le, Classical.not_not, Int32.reduceToInt, Int64.reduceToInt] at *; omega) | (simp_all; done))).trans ?_; first | (with_reducible rfl) | (simp only [*, ix_0, ix_1, ix_2, ix_3, ix_4]; done) | (simp [*, ix_0, ix_1, ix_2, ix_3, ix_4]; done) | rfl | (simp_all [ix_0, ix_1, ix_2, ix_3, ix_4]; done)) eq65.rf)
    ·
      refine xg_sipush (v := 255) (pc := 17) dX7_wind_17 (by decide) ?_
      refine xg_goto (pc := 20) (tgt := 24) dX7_wind_20 (by decide) ?_
      refine xg_csI (pc := 24) (h1 := hp lk o mf wf q) (x := if 0 ≤ v ∧ v ≤ 255 then 1 else 0) (M' := mX7_in) dX7_wind_24 lkX7_48 mcX7_in (ev_in) rfl rfl (Nat.le_of_ble_eq_true rfl) ?_
      refine xg_bz (pc := 27) (tgt := 41) dX7_wind_27 (by decide) (fun c_27 => ?_) (fun c_27 => ?_)
      ·
        refine xg_aload_n (pc := 41) dX7_wind_41 rfl ?_
        refine xg_ldc (v := -1000000001) (pc := 42) dX7_wind_42 ccX7_42 ?_
        refine xg_cvI (pc := 44) (h1 := hp lk o mf wf (q.1, q.2.1, upd q.2.2.1 0 (q.2.2.1 0 + 1), q.2.2.2.1, q.2.2.2.2.1, q.2.2.2.2.2.1, q.2.2.2.2.2.2.1, q.2.2.2.2.2.2.2.1, q.2.2.2.2.2.2.2.2.1, q.2.2.2.2.2.2.2.2.2.1, q.2.2.2.2.2.2.2.2.2.2.1, q.2.2.2.2.2.2.2.2.2.2.2.1, q.2.2.2.2.2.2.2.2.2.2.2.2.1, q.2.2.2.2.2.2.2.2.2.2.2.2.2.1, q.2.2.2.2.2.2.2.2.2.2.2.2.2.2)) (x := -1000000001) (M' := mX7_finds) dX7_wind_44 lkX7_44 mcX7_finds hp_62 rfl (ev_X7_finds (j := 0) (by decide) (by decide)) rfl rfl (Nat.le_of_ble_eq_true rfl) ?_
        exact xg_iret (pc := 47) dX7_wind_47 rfl (rqR (j := (some 0)) (g := mf) (by unfold sp_wind; refine (if_neg (by first | assumption | (simp only [Int32.lt_iff_toInt_lt, Int32.le_iff_toInt_le, Int32.not_lt, Int32.not_le, ← Int32.toInt_inj, Int64.lt_iff_toInt_lt, Int64.le_iff_toInt_le, Int64.not_lt, Int64.not_le, Classical.not_not, Int32.reduceToInt, Int64.reduceToInt] at *; omega) | (simp_all; done))).trans ?_; refine (if_neg (by first | assumption | (simp only [Int32.lt_iff_toInt_lt, Int32.le_iff_toInt_le, Int32.not_lt, Int32.not_le, ← Int32.toInt_inj, Int64.lt_iff_toInt_lt, Int64.le_iff_toInt_le, Int64.not_lt, Int64.not_le, Classical.not_not, Int32.reduceToInt, Int64.reduceToInt] at *; omega) | (simp_all; done))).trans ?_; first | (with_reducible rfl) | (simp only [*, ix_0, ix_1, ix_2, ix_3, ix_4]; done) | (simp [*, ix_0, ix_1, ix_2, ix_3, ix_4]; done) | rfl | (simp_all [ix_0, ix_1, ix_2, ix_3, ix_4]; done)) eq65.rf)
      ·
        rcases w01 c_7 with rfl | rfl
        ·
          refine xg_aload_n (pc := 30) dX7_wind_30 rfl ?_
          refine xg_iconst (v := 1) (pc := 31) dX7_wind_31 (by decide) ?_
          refine xg_iload_n (pc := 32) dX7_wind_32 rfl ?_
          refine xg_iadd (pc := 33) dX7_wind_33 ?_
          refine xg_iload_n (pc := 34) dX7_wind_34 rfl ?_
          refine xg_eq2 (show (1 + 0 : Int32) = nI (1 + 0) from by simp only [xlit, nI_add, pk_mul]) ?_
          refine xg_cvI (pc := 35) (h1 := hp lk o (upd mf (1 + 0) v) wf q) (x := mf (1 + 0)) (M' := mX7_becomes) dX7_wind_35 lkX7_80 mcX7_becomes hp_62 rfl (ev_X7_becomes (j := (1 + 0)) (by omega)) rfl rfl (Nat.le_of_ble_eq_true rfl) ?_
          refine xg_goto (pc := 38) (tgt := 47) dX7_wind_38 (by decide) ?_
          exact xg_iret (pc := 47) dX7_wind_47 rfl (rqR (j := none) (g := upd mf (1 + 0) v) (by unfold sp_wind; refine (if_pos (by first | assumption | (simp only [Int32.lt_iff_toInt_lt, Int32.le_iff_toInt_le, Int32.not_lt, Int32.not_le, ← Int32.toInt_inj, Int64.lt_iff_toInt_lt, Int64.le_iff_toInt_le, Int64.not_lt, Int64.not_le, Classical.not_not, Int32.reduceToInt, Int64.reduceToInt] at *; omega) | (simp_all; done))).trans ?_; first | (with_reducible rfl) | (simp only [*, ix_0, ix_1, ix_2, ix_3, ix_4]; done) | (simp [*, ix_0, ix_1, ix_2, ix_3, ix_4]; done) | rfl | (simp_all [ix_0, ix_1, ix_2, ix_3, ix_4]; done)) eq65.rf)
        ·
          refine xg_aload_n (pc := 30) dX7_wind_30 rfl ?_
          refine xg_iconst (v := 1) (pc := 31) dX7_wind_31 (by decide) ?_
          refine xg_iload_n (pc := 32) dX7_wind_32 rfl ?_
          refine xg_iadd (pc := 33) dX7_wind_33 ?_
          refine xg_iload_n (pc := 34) dX7_wind_34 rfl ?_
          refine xg_eq2 (show (1 + 1 : Int32) = nI (1 + 1) from by simp only [xlit, nI_add, pk_mul]) ?_
          refine xg_cvI (pc := 35) (h1 := hp lk o (upd mf (1 + 1) v) wf q) (x := mf (1 + 1)) (M' := mX7_becomes) dX7_wind_35 lkX7_80 mcX7_becomes hp_62 rfl (ev_X7_becomes (j := (1 + 1)) (by omega)) rfl rfl (Nat.le_of_ble_eq_true rfl) ?_
          refine xg_goto (pc := 38) (tgt := 47) dX7_wind_38 (by decide) ?_
          exact xg_iret (pc := 47) dX7_wind_47 rfl (rqR (j := none) (g := upd mf (1 + 1) v) (by unfold sp_wind; refine (if_neg (by first | assumption | (simp only [Int32.lt_iff_toInt_lt, Int32.le_iff_toInt_le, Int32.not_lt, Int32.not_le, ← Int32.toInt_inj, Int64.lt_iff_toInt_lt, Int64.le_iff_toInt_le, Int64.not_lt, Int64.not_le, Classical.not_not, Int32.reduceToInt, Int64.reduceToInt] at *; omega) | (simp_all; done))).trans ?_; refine (if_pos (by first | assumption | (simp only [Int32.lt_iff_toInt_lt, Int32.le_iff_toInt_le, Int32.not_lt, Int32.not_le, ← Int32.toInt_inj, Int64.lt_iff_toInt_lt, Int64.le_iff_toInt_le, Int64.not_lt, Int64.not_le, Classical.not_not, Int32.reduceToInt, Int64.reduceToInt] at *; omega) | (simp_all; done))).trans ?_; first | (with_reducible rfl) | (simp only [*, ix_0, ix_1, ix_2, ix_3, ix_4]; done) | (simp [*, ix_0, ix_1, ix_2, ix_3, ix_4]; done) | rfl | (simp_all [ix_0, ix_1, ix_2, ix_3, ix_4]; done)) eq65.rf)
set_option maxRecDepth 100000 in
set_option maxHeartbeats 4000000 in
theorem ev_X7_cell {c w : Int32} (ok : okN mf) : xEv X false (d + 4) 0 0 mX7_cell [.ref 62, .int c, .int w] (hp lk o mf wf q) (RQ lk o q (sp_cell mf (glR mf c) (orI (oR mf c) (nT mf)) (orI (bA mf c) (nB mf)) (sumI (tR mf c) (nT mf)) c w)) := by
  refine xEv.of (ls := [some (.ref 62), some (.int c), some (.int w)]) mcX7_cell.1.2.2.2.2 (Nat.le_of_ble_eq_true rfl) rfl ?_
  refine xg_iload_n (pc := 0) dX7_cell_0 rfl ?_
  refine xg_csI (pc := 1) (h1 := hp lk o mf wf q) (x := if 0 ≤ c ∧ c ≤ 47 then 1 else 0) (M' := mX7_isCell) dX7_cell_1 lkX7_83 mcX7_isCell (ev_X7_isCell) rfl rfl (Nat.le_of_ble_eq_true rfl) ?_
  refine xg_bz (pc := 4) (tgt := 17) dX7_cell_4 (by decide) (fun c_4 => ?_) (fun c_4 => ?_)
  ·
    refine xg_aload_n (pc := 17) dX7_cell_17 rfl ?_
    refine xg_ldc (v := -1000000001) (pc := 18) dX7_cell_18 ccX7_42 ?_
    refine xg_cvI (pc := 20) (h1 := hp lk o mf wf (q.1, q.2.1, upd q.2.2.1 0 (q.2.2.1 0 + 1), q.2.2.2.1, q.2.2.2.2.1, q.2.2.2.2.2.1, q.2.2.2.2.2.2.1, q.2.2.2.2.2.2.2.1, q.2.2.2.2.2.2.2.2.1, q.2.2.2.2.2.2.2.2.2.1, q.2.2.2.2.2.2.2.2.2.2.1, q.2.2.2.2.2.2.2.2.2.2.2.1, q.2.2.2.2.2.2.2.2.2.2.2.2.1, q.2.2.2.2.2.2.2.2.2.2.2.2.2.1, q.2.2.2.2.2.2.2.2.2.2.2.2.2.2)) (x := -1000000001) (M' := mX7_finds) dX7_cell_20 lkX7_44 mcX7_finds hp_62 rfl (ev_X7_finds (j := 0) (by decide) (by decide)) rfl rfl (Nat.le_of_ble_eq_true rfl) ?_
    exact xg_iret (pc := 23) dX7_cell_23 rfl (rqR (j := (some 0)) (g := mf) (by unfold sp_cell; refine (if_neg (by first | assumption | (simp only [Int32.lt_iff_toInt_lt, Int32.le_iff_toInt_le, Int32.not_lt, Int32.not_le, ← Int32.toInt_inj, Int64.lt_iff_toInt_lt, Int64.le_iff_toInt_le, Int64.not_lt, Int64.not_le, Classical.not_not, Int32.reduceToInt, Int64.reduceToInt] at *; omega) | (simp_all; done))).trans ?_; first | (with_reducible rfl) | (simp only [*, ix_0, ix_1, ix_2, ix_3, ix_4]; done) | (simp [*, ix_0, ix_1, ix_2, ix_3, ix_4]; done) | rfl | (simp_all [ix_0, ix_1, ix_2, ix_3, ix_4]; done)) eq65.rf)
  ·
    refine xg_iload_n (pc := 7) dX7_cell_7 rfl ?_
    refine xg_i2l (pc := 8) dX7_cell_8 ?_
    refine xg_iconst (v := 0) (pc := 9) dX7_cell_9 (by decide) ?_
    refine xg_iconst (v := 3) (pc := 10) dX7_cell_10 (by decide) ?_
    refine xg_csI (pc := 11) (h1 := hp lk o mf wf q) (x := if 0 ≤ w ∧ w ≤ 3 then 1 else 0) (M' := mX7_in) dX7_cell_11 lkX7_48 mcX7_in (ev_in) rfl rfl (Nat.le_of_ble_eq_true rfl) ?_
    refine xg_bnz (pc := 14) (tgt := 24) dX7_cell_14 (by decide) (fun c_14 => ?_) (fun c_14 => ?_)
    ·
      refine xg_iload_n (pc := 24) dX7_cell_24 rfl ?_
      refine xg_if_ne (pc := 25) (tgt := 36) dX7_cell_25 (by decide) (fun c_25 => ?_) (fun c_25 => ?_)
      ·
        refine xg_iload_n (pc := 36) dX7_cell_36 rfl ?_
        refine xg_iconst (v := 1) (pc := 37) dX7_cell_37 (by decide) ?_
        refine xg_icmp_ne (pc := 38) (tgt := 49) dX7_cell_38 (by decide) (fun c_38 => ?_) (fun c_38 => ?_)
        ·
          refine xg_iload_n (pc := 49) dX7_cell_49 rfl ?_
          refine xg_iconst (v := 2) (pc := 50) dX7_cell_50 (by decide) ?_
          refine xg_icmp_ne (pc := 51) (tgt := 62) dX7_cell_51 (by decide) (fun c_51 => ?_) (fun c_51 => ?_)
          ·
            refine xg_aload_n (pc := 62) dX7_cell_62 rfl ?_
            refine xg_iload_n (pc := 63) dX7_cell_63 rfl ?_
            refine xg_cvI (pc := 64) (h1 := hp lk o mf wf q) (x := sumI (tR mf c) (nT mf)) (M' := mX7_taxAt) dX7_cell_64 lkX7_95 mcX7_taxAt hp_62 rfl (ev_X7_taxAt ok) rfl rfl (Nat.le_of_ble_eq_true rfl) ?_
            exact xg_iret (pc := 67) dX7_cell_67 rfl (rqR (j := none) (g := mf) (by unfold sp_cell; refine (if_pos (by first | assumption | (simp only [Int32.lt_iff_toInt_lt, Int32.le_iff_toInt_le, Int32.not_lt, Int32.not_le, ← Int32.toInt_inj, Int64.lt_iff_toInt_lt, Int64.le_iff_toInt_le, Int64.not_lt, Int64.not_le, Classical.not_not, Int32.reduceToInt, Int64.reduceToInt] at *; omega) | (simp_all; done))).trans ?_; refine (if_neg (by first | assumption | (simp only [Int32.lt_iff_toInt_lt, Int32.le_iff_toInt_le, Int32.not_lt, Int32.not_le, ← Int32.toInt_inj, Int64.lt_iff_toInt_lt, Int64.le_iff_toInt_le, Int64.not_lt, Int64.not_le, Classical.not_not, Int32.reduceToInt, Int64.reduceToInt] at *; omega) | (simp_all; done))).trans ?_; refine (if_neg (by first | assumption | (simp only [Int32.lt_iff_toInt_lt, Int32.le_iff_toInt_le, Int32.not_lt, Int32.not_le, ← Int32.toInt_inj, Int64.lt_iff_toInt_lt, Int64.le_iff_toInt_le, Int64.not_lt, Int64.not_le, Classical.not_not, Int32.reduceToInt, Int64.reduceToInt] at *; omega) | (simp_all; done))).trans ?_; refine (if_neg (by first | assumption | (simp only [Int32.lt_iff_toInt_lt, Int32.le_iff_toInt_le, Int32.not_lt, Int32.not_le, ← Int32.toInt_inj, Int64.lt_iff_toInt_lt, Int64.le_iff_toInt_le, Int64.not_lt, Int64.not_le, Classical.not_not, Int32.reduceToInt, Int64.reduceToInt] at *; omega) | (simp_all; done))).trans ?_; refine (if_pos (by first | assumption | (simp only [Int32.lt_iff_toInt_lt, Int32.le_iff_toInt_le, Int32.not_lt, Int32.not_le, ← Int32.toInt_inj, Int64.lt_iff_toInt_lt, Int64.le_iff_toInt_le, Int64.not_lt, Int64.not_le, Classical.not_not, Int32.reduceToInt, Int64.reduceToInt] at *; omega) | (simp_all; done))).trans ?_; first | (with_reducible rfl) | (simp only [*, ix_0, ix_1, ix_2, ix_3, ix_4]; done) | (simp [*, ix_0, ix_1, ix_2, ix_3, ix_4]; done) | rfl | (simp_all [ix_0, ix_1, ix_2, ix_3, ix_4]; done)) eq65.rf)
          ·
            refine xg_aload_n (pc := 54) dX7_cell_54 rfl ?_
            refine xg_iload_n (pc := 55) dX7_cell_55 rfl ?_
            refine xg_cvI (pc := 56) (h1 := hp lk o mf wf q) (x := orI (bA mf c) (nB mf)) (M' := mX7_boatsAt) dX7_cell_56 lkX7_92 mcX7_boatsAt hp_62 rfl (ev_X7_boatsAt ok) rfl rfl (Nat.le_of_ble_eq_true rfl) ?_
            refine xg_goto (pc := 59) (tgt := 67) dX7_cell_59 (by decide) ?_
            exact xg_iret (pc := 67) dX7_cell_67 rfl (rqR (j := none) (g := mf) (by unfold sp_cell; refine (if_pos (by first | assumption | (simp only [Int32.lt_iff_toInt_lt, Int32.le_iff_toInt_le, Int32.not_lt, Int32.not_le, ← Int32.toInt_inj, Int64.lt_iff_toInt_lt, Int64.le_iff_toInt_le, Int64.not_lt, Int64.not_le, Classical.not_not, Int32.reduceToInt, Int64.reduceToInt] at *; omega) | (simp_all; done))).trans ?_; refine (if_neg (by first | assumption | (simp only [Int32.lt_iff_toInt_lt, Int32.le_iff_toInt_le, Int32.not_lt, Int32.not_le, ← Int32.toInt_inj, Int64.lt_iff_toInt_lt, Int64.le_iff_toInt_le, Int64.not_lt, Int64.not_le, Classical.not_not, Int32.reduceToInt, Int64.reduceToInt] at *; omega) | (simp_all; done))).trans ?_; refine (if_neg (by first | assumption | (simp only [Int32.lt_iff_toInt_lt, Int32.le_iff_toInt_le, Int32.not_lt, Int32.not_le, ← Int32.toInt_inj, Int64.lt_iff_toInt_lt, Int64.le_iff_toInt_le, Int64.not_lt, Int64.not_le, Classical.not_not, Int32.reduceToInt, Int64.reduceToInt] at *; omega) | (simp_all; done))).trans ?_; refine (if_pos (by first | assumption | (simp only [Int32.lt_iff_toInt_lt, Int32.le_iff_toInt_le, Int32.not_lt, Int32.not_le, ← Int32.toInt_inj, Int64.lt_iff_toInt_lt, Int64.le_iff_toInt_le, Int64.not_lt, Int64.not_le, Classical.not_not, Int32.reduceToInt, Int64.reduceToInt] at *; omega) | (simp_all; done))).trans ?_; first | (with_reducible rfl) | (simp only [*, ix_0, ix_1, ix_2, ix_3, ix_4]; done) | (simp [*, ix_0, ix_1, ix_2, ix_3, ix_4]; done) | rfl | (simp_all [ix_0, ix_1, ix_2, ix_3, ix_4]; done)) eq65.rf)
        ·
          refine xg_aload_n (pc := 41) dX7_cell_41 rfl ?_
          refine xg_iload_n (pc := 42) dX7_cell_42 rfl ?_
          refine xg_cvI (pc := 43) (h1 := hp lk o mf wf q) (x := orI (oR mf c) (nT mf)) (M' := mX7_mirrored) dX7_cell_43 lkX7_89 mcX7_mirrored hp_62 rfl (ev_X7_mirrored ok) rfl rfl (Nat.le_of_ble_eq_true rfl) ?_
          refine xg_goto (pc := 46) (tgt := 67) dX7_cell_46 (by decide) ?_
          exact xg_iret (pc := 67) dX7_cell_67 rfl (rqR (j := none) (g := mf) (by unfold sp_cell; refine (if_pos (by first | assumption | (simp only [Int32.lt_iff_toInt_lt, Int32.le_iff_toInt_le, Int32.not_lt, Int32.not_le, ← Int32.toInt_inj, Int64.lt_iff_toInt_lt, Int64.le_iff_toInt_le, Int64.not_lt, Int64.not_le, Classical.not_not, Int32.reduceToInt, Int64.reduceToInt] at *; omega) | (simp_all; done))).trans ?_; refine (if_neg (by first | assumption | (simp only [Int32.lt_iff_toInt_lt, Int32.le_iff_toInt_le, Int32.not_lt, Int32.not_le, ← Int32.toInt_inj, Int64.lt_iff_toInt_lt, Int64.le_iff_toInt_le, Int64.not_lt, Int64.not_le, Classical.not_not, Int32.reduceToInt, Int64.reduceToInt] at *; omega) | (simp_all; done))).trans ?_; refine (if_pos (by first | assumption | (simp only [Int32.lt_iff_toInt_lt, Int32.le_iff_toInt_le, Int32.not_lt, Int32.not_le, ← Int32.toInt_inj, Int64.lt_iff_toInt_lt, Int64.le_iff_toInt_le, Int64.not_lt, Int64.not_le, Classical.not_not, Int32.reduceToInt, Int64.reduceToInt] at *; omega) | (simp_all; done))).trans ?_; first | (with_reducible rfl) | (simp only [*, ix_0, ix_1, ix_2, ix_3, ix_4]; done) | (simp [*, ix_0, ix_1, ix_2, ix_3, ix_4]; done) | rfl | (simp_all [ix_0, ix_1, ix_2, ix_3, ix_4]; done)) eq65.rf)
      ·
        refine xg_aload_n (pc := 28) dX7_cell_28 rfl ?_
        refine xg_iload_n (pc := 29) dX7_cell_29 rfl ?_
        refine xg_cvI (pc := 30) (h1 := hp lk o mf wf q) (x := glR mf c) (M' := mX7_glintOf) dX7_cell_30 lkX7_86 mcX7_glintOf hp_62 rfl (ev_X7_glintOf ok c_4) rfl rfl (Nat.le_of_ble_eq_true rfl) ?_
        refine xg_goto (pc := 33) (tgt := 67) dX7_cell_33 (by decide) ?_
        exact xg_iret (pc := 67) dX7_cell_67 rfl (rqR (j := none) (g := mf) (by unfold sp_cell; refine (if_pos (by first | assumption | (simp only [Int32.lt_iff_toInt_lt, Int32.le_iff_toInt_le, Int32.not_lt, Int32.not_le, ← Int32.toInt_inj, Int64.lt_iff_toInt_lt, Int64.le_iff_toInt_le, Int64.not_lt, Int64.not_le, Classical.not_not, Int32.reduceToInt, Int64.reduceToInt] at *; omega) | (simp_all; done))).trans ?_; refine (if_pos (by first | assumption | (simp only [Int32.lt_iff_toInt_lt, Int32.le_iff_toInt_le, Int32.not_lt, Int32.not_le, ← Int32.toInt_inj, Int64.lt_iff_toInt_lt, Int64.le_iff_toInt_le, Int64.not_lt, Int64.not_le, Classical.not_not, Int32.reduceToInt, Int64.reduceToInt] at *; omega) | (simp_all; done))).trans ?_; first | (with_reducible rfl) | (simp only [*, ix_0, ix_1, ix_2, ix_3, ix_4]; done) | (simp [*, ix_0, ix_1, ix_2, ix_3, ix_4]; done) | rfl | (simp_all [ix_0, ix_1, ix_2, ix_3, ix_4]; done)) eq65.rf)
    ·
      refine xg_aload_n (pc := 17) dX7_cell_17 rfl ?_
      refine xg_ldc (v := -1000000001) (pc := 18) dX7_cell_18 ccX7_42 ?_
      refine xg_cvI (pc := 20) (h1 := hp lk o mf wf (q.1, q.2.1, upd q.2.2.1 0 (q.2.2.1 0 + 1), q.2.2.2.1, q.2.2.2.2.1, q.2.2.2.2.2.1, q.2.2.2.2.2.2.1, q.2.2.2.2.2.2.2.1, q.2.2.2.2.2.2.2.2.1, q.2.2.2.2.2.2.2.2.2.1, q.2.2.2.2.2.2.2.2.2.2.1, q.2.2.2.2.2.2.2.2.2.2.2.1, q.2.2.2.2.2.2.2.2.2.2.2.2.1, q.2.2.2.2.2.2.2.2.2.2.2.2.2.1, q.2.2.2.2.2.2.2.2.2.2.2.2.2.2)) (x := -1000000001) (M' := mX7_finds) dX7_cell_20 lkX7_44 mcX7_finds hp_62 rfl (ev_X7_finds (j := 0) (by decide) (by decide)) rfl rfl (Nat.le_of_ble_eq_true rfl) ?_
      exact xg_iret (pc := 23) dX7_cell_23 rfl (rqR (j := (some 0)) (g := mf) (by unfold sp_cell; refine (if_pos (by first | assumption | (simp only [Int32.lt_iff_toInt_lt, Int32.le_iff_toInt_le, Int32.not_lt, Int32.not_le, ← Int32.toInt_inj, Int64.lt_iff_toInt_lt, Int64.le_iff_toInt_le, Int64.not_lt, Int64.not_le, Classical.not_not, Int32.reduceToInt, Int64.reduceToInt] at *; omega) | (simp_all; done))).trans ?_; refine (if_neg (by first | assumption | (simp only [Int32.lt_iff_toInt_lt, Int32.le_iff_toInt_le, Int32.not_lt, Int32.not_le, ← Int32.toInt_inj, Int64.lt_iff_toInt_lt, Int64.le_iff_toInt_le, Int64.not_lt, Int64.not_le, Classical.not_not, Int32.reduceToInt, Int64.reduceToInt] at *; omega) | (simp_all; done))).trans ?_; refine (if_neg (by first | assumption | (simp only [Int32.lt_iff_toInt_lt, Int32.le_iff_toInt_le, Int32.not_lt, Int32.not_le, ← Int32.toInt_inj, Int64.lt_iff_toInt_lt, Int64.le_iff_toInt_le, Int64.not_lt, Int64.not_le, Classical.not_not, Int32.reduceToInt, Int64.reduceToInt] at *; omega) | (simp_all; done))).trans ?_; refine (if_neg (by first | assumption | (simp only [Int32.lt_iff_toInt_lt, Int32.le_iff_toInt_le, Int32.not_lt, Int32.not_le, ← Int32.toInt_inj, Int64.lt_iff_toInt_lt, Int64.le_iff_toInt_le, Int64.not_lt, Int64.not_le, Classical.not_not, Int32.reduceToInt, Int64.reduceToInt] at *; omega) | (simp_all; done))).trans ?_; refine (if_neg (by first | assumption | (simp only [Int32.lt_iff_toInt_lt, Int32.le_iff_toInt_le, Int32.not_lt, Int32.not_le, ← Int32.toInt_inj, Int64.lt_iff_toInt_lt, Int64.le_iff_toInt_le, Int64.not_lt, Int64.not_le, Classical.not_not, Int32.reduceToInt, Int64.reduceToInt] at *; omega) | (simp_all; done))).trans ?_; first | (with_reducible rfl) | (simp only [*, ix_0, ix_1, ix_2, ix_3, ix_4]; done) | (simp [*, ix_0, ix_1, ix_2, ix_3, ix_4]; done) | rfl | (simp_all [ix_0, ix_1, ix_2, ix_3, ix_4]; done)) eq65.rf)
set_option maxRecDepth 100000 in
set_option maxHeartbeats 4000000 in
theorem ev_X7_thing {k c h : Int32} (ok : okN mf) : xEv X false (d + 2) 0 0 mX7_thing [.ref 62, .int k, .int c, .int h] (hp lk o mf wf q) (RQ lk o q (sp_thing mf k c h)) := by
  have h8 := ok.2.1
  refine xEv.of (ls := [some (.ref 62), some (.int k), some (.int c), some (.int h)]) mcX7_thing.1.2.2.2.2 (Nat.le_of_ble_eq_true rfl) rfl ?_
  refine xg_iload_n (pc := 0) dX7_thing_0 rfl ?_
  refine xg_i2l (pc := 1) dX7_thing_1 ?_
  refine xg_iconst (v := 0) (pc := 2) dX7_thing_2 (by decide) ?_
  refine xg_iconst (v := 5) (pc := 3) dX7_thing_3 (by decide) ?_
  refine xg_csI (pc := 4) (h1 := hp lk o mf wf q) (x := if 0 ≤ k ∧ k ≤ 5 then 1 else 0) (M' := mX7_in) dX7_thing_4 lkX7_48 mcX7_in (ev_in) rfl rfl (Nat.le_of_ble_eq_true rfl) ?_
  refine xg_bz (pc := 7) (tgt := 26) dX7_thing_7 (by decide) (fun c_7 => ?_) (fun c_7 => ?_)
  ·
    refine xg_aload_n (pc := 26) dX7_thing_26 rfl ?_
    refine xg_ldc (v := -1000000001) (pc := 27) dX7_thing_27 ccX7_42 ?_
    refine xg_cvI (pc := 29) (h1 := hp lk o mf wf (q.1, q.2.1, upd q.2.2.1 0 (q.2.2.1 0 + 1), q.2.2.2.1, q.2.2.2.2.1, q.2.2.2.2.2.1, q.2.2.2.2.2.2.1, q.2.2.2.2.2.2.2.1, q.2.2.2.2.2.2.2.2.1, q.2.2.2.2.2.2.2.2.2.1, q.2.2.2.2.2.2.2.2.2.2.1, q.2.2.2.2.2.2.2.2.2.2.2.1, q.2.2.2.2.2.2.2.2.2.2.2.2.1, q.2.2.2.2.2.2.2.2.2.2.2.2.2.1, q.2.2.2.2.2.2.2.2.2.2.2.2.2.2)) (x := -1000000001) (M' := mX7_finds) dX7_thing_29 lkX7_44 mcX7_finds hp_62 rfl (ev_X7_finds (j := 0) (by decide) (by decide)) rfl rfl (Nat.le_of_ble_eq_true rfl) ?_
    exact xg_iret (pc := 32) dX7_thing_32 rfl (rqR (j := (some 0)) (g := mf) (by unfold sp_thing; refine (if_neg (by first | assumption | (simp only [may, Int32.lt_iff_toInt_lt, Int32.le_iff_toInt_le, Int32.not_lt, Int32.not_le, ← Int32.toInt_inj, Int64.lt_iff_toInt_lt, Int64.le_iff_toInt_le, Int64.not_lt, Int64.not_le, Classical.not_not, Int32.reduceToInt, Int64.reduceToInt] at *; omega) | (simp_all; done))).trans ?_; first | (with_reducible rfl) | (simp only [*, ix_0, ix_1, ix_2, ix_3, ix_4]; done) | (simp [*, ix_0, ix_1, ix_2, ix_3, ix_4]; done) | rfl | (simp_all [ix_0, ix_1, ix_2, ix_3, ix_4]; done)) eq65.rf)
  ·
    refine xg_iconst (v := 1) (pc := 10) dX7_thing_10 (by decide) ?_
    refine xg_iload_n (pc := 11) dX7_thing_11 rfl ?_
    refine xg_csI (pc := 12) (h1 := hp lk o mf wf q) (x := if 0 ≤ c ∧ c ≤ 7 then 1 else 0) (M' := mX7_mayBe) dX7_thing_12 lkX7_98 mcX7_mayBe (ev_may1) rfl rfl (Nat.le_of_ble_eq_true rfl) ?_
    refine xg_bz (pc := 15) (tgt := 26) dX7_thing_15 (by decide) (fun c_15 => ?_) (fun c_15 => ?_)
    ·
      refine xg_aload_n (pc := 26) dX7_thing_26 rfl ?_
      refine xg_ldc (v := -1000000001) (pc := 27) dX7_thing_27 ccX7_42 ?_
      refine xg_cvI (pc := 29) (h1 := hp lk o mf wf (q.1, q.2.1, upd q.2.2.1 0 (q.2.2.1 0 + 1), q.2.2.2.1, q.2.2.2.2.1, q.2.2.2.2.2.1, q.2.2.2.2.2.2.1, q.2.2.2.2.2.2.2.1, q.2.2.2.2.2.2.2.2.1, q.2.2.2.2.2.2.2.2.2.1, q.2.2.2.2.2.2.2.2.2.2.1, q.2.2.2.2.2.2.2.2.2.2.2.1, q.2.2.2.2.2.2.2.2.2.2.2.2.1, q.2.2.2.2.2.2.2.2.2.2.2.2.2.1, q.2.2.2.2.2.2.2.2.2.2.2.2.2.2)) (x := -1000000001) (M' := mX7_finds) dX7_thing_29 lkX7_44 mcX7_finds hp_62 rfl (ev_X7_finds (j := 0) (by decide) (by decide)) rfl rfl (Nat.le_of_ble_eq_true rfl) ?_
      exact xg_iret (pc := 32) dX7_thing_32 rfl (rqR (j := (some 0)) (g := mf) (by unfold sp_thing; refine (if_neg (by first | assumption | (simp only [may, Int32.lt_iff_toInt_lt, Int32.le_iff_toInt_le, Int32.not_lt, Int32.not_le, ← Int32.toInt_inj, Int64.lt_iff_toInt_lt, Int64.le_iff_toInt_le, Int64.not_lt, Int64.not_le, Classical.not_not, Int32.reduceToInt, Int64.reduceToInt] at *; omega) | (simp_all; done))).trans ?_; first | (with_reducible rfl) | (simp only [*, ix_0, ix_1, ix_2, ix_3, ix_4]; done) | (simp [*, ix_0, ix_1, ix_2, ix_3, ix_4]; done) | rfl | (simp_all [ix_0, ix_1, ix_2, ix_3, ix_4]; done)) eq65.rf)
    ·
      refine xg_iconst (v := 2) (pc := 18) dX7_thing_18 (by decide) ?_
      refine xg_iload_n (pc := 19) dX7_thing_19 rfl ?_
      refine xg_csI (pc := 20) (h1 := hp lk o mf wf q) (x := if 1 ≤ h ∧ h ≤ 6 then 1 else 0) (M' := mX7_mayBe) dX7_thing_20 lkX7_98 mcX7_mayBe (ev_may2) rfl rfl (Nat.le_of_ble_eq_true rfl) ?_
      refine xg_bnz (pc := 23) (tgt := 33) dX7_thing_23 (by decide) (fun c_23 => ?_) (fun c_23 => ?_)
      ·
        refine xg_aload_n (pc := 33) dX7_thing_33 rfl ?_
        refine xg_get (pc := 34) dX7_thing_34 flX7_9 hp_62 rfl ?_
        refine xg_iconst (v := 3) (pc := 37) dX7_thing_37 (by decide) ?_
        refine xg_iald (pc := 38) 3 dX7_thing_38 hp_63 rfl (by omega) (by decide) ?_
        refine xg_bipush (v := 8) (pc := 39) dX7_thing_39 (by decide) ?_
        refine xg_icmp_ne (pc := 41) (tgt := 53) dX7_thing_41 (by decide) (fun c_41 => ?_) (fun c_41 => ?_)
        ·
          have hr8 : nT mf < 8 := ne_of8 ok c_41
          have hf8 := lt8_of ok hr8
          refine xg_aload_n (pc := 53) dX7_thing_53 rfl ?_
          refine xg_iload_n (pc := 54) dX7_thing_54 rfl ?_
          refine xg_iload_n (pc := 55) dX7_thing_55 rfl ?_
          refine xg_iload_n (pc := 56) dX7_thing_56 rfl ?_
          refine xg_bipush (v := 40) (pc := 57) dX7_thing_57 (by decide) ?_
          refine xg_iconst (v := 1) (pc := 59) dX7_thing_59 (by decide) ?_
          refine xg_cvI (pc := 60) (h1 := hp lk o (aT mf k c h 40 1) wf q) (x := mf 3) (M' := mX7_comes) dX7_thing_60 lkX7_102 mcX7_comes hp_62 rfl (ev_X7_comes ok (by omega)) rfl rfl (Nat.le_of_ble_eq_true rfl) ?_
          exact xg_iret (pc := 63) dX7_thing_63 rfl (rqR (j := none) (g := aT mf k c h 40 1) (by unfold sp_thing; refine (if_pos (by first | assumption | (simp only [may, Int32.lt_iff_toInt_lt, Int32.le_iff_toInt_le, Int32.not_lt, Int32.not_le, ← Int32.toInt_inj, Int64.lt_iff_toInt_lt, Int64.le_iff_toInt_le, Int64.not_lt, Int64.not_le, Classical.not_not, Int32.reduceToInt, Int64.reduceToInt] at *; omega) | (simp_all; done))).trans ?_; refine (if_neg (by first | assumption | (simp only [may, Int32.lt_iff_toInt_lt, Int32.le_iff_toInt_le, Int32.not_lt, Int32.not_le, ← Int32.toInt_inj, Int64.lt_iff_toInt_lt, Int64.le_iff_toInt_le, Int64.not_lt, Int64.not_le, Classical.not_not, Int32.reduceToInt, Int64.reduceToInt] at *; omega) | (simp_all; done))).trans ?_; first | (with_reducible rfl) | (simp only [*, ix_0, ix_1, ix_2, ix_3, ix_4]; done) | (simp [*, ix_0, ix_1, ix_2, ix_3, ix_4]; done) | rfl | (simp_all [ix_0, ix_1, ix_2, ix_3, ix_4]; done)) eq65.rf)
        ·
          refine xg_aload_n (pc := 44) dX7_thing_44 rfl ?_
          refine xg_ldc (v := -1000000002) (pc := 45) dX7_thing_45 ccX7_101 ?_
          refine xg_cvI (pc := 47) (h1 := hp lk o mf wf (q.1, q.2.1, upd q.2.2.1 1 (q.2.2.1 1 + 1), q.2.2.2.1, q.2.2.2.2.1, q.2.2.2.2.2.1, q.2.2.2.2.2.2.1, q.2.2.2.2.2.2.2.1, q.2.2.2.2.2.2.2.2.1, q.2.2.2.2.2.2.2.2.2.1, q.2.2.2.2.2.2.2.2.2.2.1, q.2.2.2.2.2.2.2.2.2.2.2.1, q.2.2.2.2.2.2.2.2.2.2.2.2.1, q.2.2.2.2.2.2.2.2.2.2.2.2.2.1, q.2.2.2.2.2.2.2.2.2.2.2.2.2.2)) (x := -1000000002) (M' := mX7_finds) dX7_thing_47 lkX7_44 mcX7_finds hp_62 rfl (ev_X7_finds (j := 1) (by decide) (by decide)) rfl rfl (Nat.le_of_ble_eq_true rfl) ?_
          refine xg_goto (pc := 50) (tgt := 63) dX7_thing_50 (by decide) ?_
          exact xg_iret (pc := 63) dX7_thing_63 rfl (rqR (j := (some 1)) (g := mf) (by unfold sp_thing; refine (if_pos (by first | assumption | (simp only [may, Int32.lt_iff_toInt_lt, Int32.le_iff_toInt_le, Int32.not_lt, Int32.not_le, ← Int32.toInt_inj, Int64.lt_iff_toInt_lt, Int64.le_iff_toInt_le, Int64.not_lt, Int64.not_le, Classical.not_not, Int32.reduceToInt, Int64.reduceToInt] at *; omega) | (simp_all; done))).trans ?_; refine (if_pos (by first | assumption | (simp only [may, Int32.lt_iff_toInt_lt, Int32.le_iff_toInt_le, Int32.not_lt, Int32.not_le, ← Int32.toInt_inj, Int64.lt_iff_toInt_lt, Int64.le_iff_toInt_le, Int64.not_lt, Int64.not_le, Classical.not_not, Int32.reduceToInt, Int64.reduceToInt] at *; omega) | (simp_all; done))).trans ?_; first | (with_reducible rfl) | (simp only [*, ix_0, ix_1, ix_2, ix_3, ix_4]; done) | (simp [*, ix_0, ix_1, ix_2, ix_3, ix_4]; done) | rfl | (simp_all [ix_0, ix_1, ix_2, ix_3, ix_4]; done)) eq65.rf)
      ·
        refine xg_aload_n (pc := 26) dX7_thing_26 rfl ?_
        refine xg_ldc (v := -1000000001) (pc := 27) dX7_thing_27 ccX7_42 ?_
        refine xg_cvI (pc := 29) (h1 := hp lk o mf wf (q.1, q.2.1, upd q.2.2.1 0 (q.2.2.1 0 + 1), q.2.2.2.1, q.2.2.2.2.1, q.2.2.2.2.2.1, q.2.2.2.2.2.2.1, q.2.2.2.2.2.2.2.1, q.2.2.2.2.2.2.2.2.1, q.2.2.2.2.2.2.2.2.2.1, q.2.2.2.2.2.2.2.2.2.2.1, q.2.2.2.2.2.2.2.2.2.2.2.1, q.2.2.2.2.2.2.2.2.2.2.2.2.1, q.2.2.2.2.2.2.2.2.2.2.2.2.2.1, q.2.2.2.2.2.2.2.2.2.2.2.2.2.2)) (x := -1000000001) (M' := mX7_finds) dX7_thing_29 lkX7_44 mcX7_finds hp_62 rfl (ev_X7_finds (j := 0) (by decide) (by decide)) rfl rfl (Nat.le_of_ble_eq_true rfl) ?_
        exact xg_iret (pc := 32) dX7_thing_32 rfl (rqR (j := (some 0)) (g := mf) (by unfold sp_thing; refine (if_neg (by first | assumption | (simp only [may, Int32.lt_iff_toInt_lt, Int32.le_iff_toInt_le, Int32.not_lt, Int32.not_le, ← Int32.toInt_inj, Int64.lt_iff_toInt_lt, Int64.le_iff_toInt_le, Int64.not_lt, Int64.not_le, Classical.not_not, Int32.reduceToInt, Int64.reduceToInt] at *; omega) | (simp_all; done))).trans ?_; first | (with_reducible rfl) | (simp only [*, ix_0, ix_1, ix_2, ix_3, ix_4]; done) | (simp [*, ix_0, ix_1, ix_2, ix_3, ix_4]; done) | rfl | (simp_all [ix_0, ix_1, ix_2, ix_3, ix_4]; done)) eq65.rf)
set_option maxRecDepth 100000 in
set_option maxHeartbeats 4000000 in
theorem ev_X7_turn {t k : Int32} (ok : okN mf) : xEv X false (d + 2) 0 0 mX7_turn [.ref 62, .int t, .int k] (hp lk o mf wf q) (RQ lk o q (sp_turn mf t k)) := by
  have h8 := ok.2.1
  refine xEv.of (ls := [some (.ref 62), some (.int t), some (.int k)]) mcX7_turn.1.2.2.2.2 (Nat.le_of_ble_eq_true rfl) rfl ?_
  refine xg_aload_n (pc := 0) dX7_turn_0 rfl ?_
  refine xg_iload_n (pc := 1) dX7_turn_1 rfl ?_
  refine xg_cvI (pc := 2) (h1 := hp lk o mf wf q) (x := if 0 ≤ t ∧ t < mf 3 then 1 else 0) (M' := mX7_isThing) dX7_turn_2 lkX7_106 mcX7_isThing hp_62 rfl (ev_isT ok) rfl rfl (Nat.le_of_ble_eq_true rfl) ?_
  refine xg_bz (pc := 5) (tgt := 31) dX7_turn_5 (by decide) (fun c_5 => ?_) (fun c_5 => ?_)
  ·
    refine xg_aload_n (pc := 31) dX7_turn_31 rfl ?_
    refine xg_ldc (v := -1000000001) (pc := 32) dX7_turn_32 ccX7_42 ?_
    refine xg_cvI (pc := 34) (h1 := hp lk o mf wf (q.1, q.2.1, upd q.2.2.1 0 (q.2.2.1 0 + 1), q.2.2.2.1, q.2.2.2.2.1, q.2.2.2.2.2.1, q.2.2.2.2.2.2.1, q.2.2.2.2.2.2.2.1, q.2.2.2.2.2.2.2.2.1, q.2.2.2.2.2.2.2.2.2.1, q.2.2.2.2.2.2.2.2.2.2.1, q.2.2.2.2.2.2.2.2.2.2.2.1, q.2.2.2.2.2.2.2.2.2.2.2.2.1, q.2.2.2.2.2.2.2.2.2.2.2.2.2.1, q.2.2.2.2.2.2.2.2.2.2.2.2.2.2)) (x := -1000000001) (M' := mX7_finds) dX7_turn_34 lkX7_44 mcX7_finds hp_62 rfl (ev_X7_finds (j := 0) (by decide) (by decide)) rfl rfl (Nat.le_of_ble_eq_true rfl) ?_
    exact xg_iret (pc := 37) dX7_turn_37 rfl (rqR (j := (some 0)) (g := mf) (by unfold sp_turn; refine (if_neg (by first | assumption | (simp only [Int32.lt_iff_toInt_lt, Int32.le_iff_toInt_le, Int32.not_lt, Int32.not_le, ← Int32.toInt_inj, Int64.lt_iff_toInt_lt, Int64.le_iff_toInt_le, Int64.not_lt, Int64.not_le, Classical.not_not, Int32.reduceToInt, Int64.reduceToInt] at *; omega) | (simp_all; done))).trans ?_; first | (with_reducible rfl) | (simp only [*, ix_0, ix_1, ix_2, ix_3, ix_4]; done) | (simp [*, ix_0, ix_1, ix_2, ix_3, ix_4]; done) | rfl | (simp_all [ix_0, ix_1, ix_2, ix_3, ix_4]; done)) eq65.rf)
  ·
    refine xg_iload_n (pc := 8) dX7_turn_8 rfl ?_
    refine xg_i2l (pc := 9) dX7_turn_9 ?_
    refine xg_iconst (v := 0) (pc := 10) dX7_turn_10 (by decide) ?_
    refine xg_iconst (v := 5) (pc := 11) dX7_turn_11 (by decide) ?_
    refine xg_csI (pc := 12) (h1 := hp lk o mf wf q) (x := if 0 ≤ k ∧ k ≤ 5 then 1 else 0) (M' := mX7_in) dX7_turn_12 lkX7_48 mcX7_in (ev_in) rfl rfl (Nat.le_of_ble_eq_true rfl) ?_
    refine xg_bz (pc := 15) (tgt := 31) dX7_turn_15 (by decide) (fun c_15 => ?_) (fun c_15 => ?_)
    ·
      refine xg_aload_n (pc := 31) dX7_turn_31 rfl ?_
      refine xg_ldc (v := -1000000001) (pc := 32) dX7_turn_32 ccX7_42 ?_
      refine xg_cvI (pc := 34) (h1 := hp lk o mf wf (q.1, q.2.1, upd q.2.2.1 0 (q.2.2.1 0 + 1), q.2.2.2.1, q.2.2.2.2.1, q.2.2.2.2.2.1, q.2.2.2.2.2.2.1, q.2.2.2.2.2.2.2.1, q.2.2.2.2.2.2.2.2.1, q.2.2.2.2.2.2.2.2.2.1, q.2.2.2.2.2.2.2.2.2.2.1, q.2.2.2.2.2.2.2.2.2.2.2.1, q.2.2.2.2.2.2.2.2.2.2.2.2.1, q.2.2.2.2.2.2.2.2.2.2.2.2.2.1, q.2.2.2.2.2.2.2.2.2.2.2.2.2.2)) (x := -1000000001) (M' := mX7_finds) dX7_turn_34 lkX7_44 mcX7_finds hp_62 rfl (ev_X7_finds (j := 0) (by decide) (by decide)) rfl rfl (Nat.le_of_ble_eq_true rfl) ?_
      exact xg_iret (pc := 37) dX7_turn_37 rfl (rqR (j := (some 0)) (g := mf) (by unfold sp_turn; refine (if_neg (by first | assumption | (simp only [Int32.lt_iff_toInt_lt, Int32.le_iff_toInt_le, Int32.not_lt, Int32.not_le, ← Int32.toInt_inj, Int64.lt_iff_toInt_lt, Int64.le_iff_toInt_le, Int64.not_lt, Int64.not_le, Classical.not_not, Int32.reduceToInt, Int64.reduceToInt] at *; omega) | (simp_all; done))).trans ?_; first | (with_reducible rfl) | (simp only [*, ix_0, ix_1, ix_2, ix_3, ix_4]; done) | (simp [*, ix_0, ix_1, ix_2, ix_3, ix_4]; done) | rfl | (simp_all [ix_0, ix_1, ix_2, ix_3, ix_4]; done)) eq65.rf)
    ·
      refine xg_aload_n (pc := 18) dX7_turn_18 rfl ?_
      obtain ⟨tn, htn, rfl⟩ := idxT ok c_5
      have etn : ix (nI tn) = tn := nI_clamp (by omega)
      refine xg_iconst (v := 5) (pc := 19) dX7_turn_19 (by decide) ?_
      refine xg_iconst (v := 5) (pc := 20) dX7_turn_20 (by decide) ?_
      refine xg_iload_n (pc := 21) dX7_turn_21 rfl ?_
      refine xg_imul (pc := 22) dX7_turn_22 ?_
      refine xg_iadd (pc := 23) dX7_turn_23 ?_
      refine xg_iload_n (pc := 24) dX7_turn_24 rfl ?_
      refine xg_eq2 (show (5 + (5 * (nI tn)) : Int32) = nI (5 + 5 * tn) from by simp only [xlit, nI_add, pk_mul]) ?_
      refine xg_cvI (pc := 25) (h1 := hp lk o (upd mf (5 + 5 * tn) k) wf q) (x := mf (5 + 5 * tn)) (M' := mX7_becomes) dX7_turn_25 lkX7_80 mcX7_becomes hp_62 rfl (ev_X7_becomes (j := (5 + 5 * tn)) (by omega)) rfl rfl (Nat.le_of_ble_eq_true rfl) ?_
      refine xg_goto (pc := 28) (tgt := 37) dX7_turn_28 (by decide) ?_
      exact xg_iret (pc := 37) dX7_turn_37 rfl (rqR (j := none) (g := upd mf (5 + 5 * tn) k) (by unfold sp_turn; refine (if_pos (by first | assumption | (simp only [Int32.lt_iff_toInt_lt, Int32.le_iff_toInt_le, Int32.not_lt, Int32.not_le, ← Int32.toInt_inj, Int64.lt_iff_toInt_lt, Int64.le_iff_toInt_le, Int64.not_lt, Int64.not_le, Classical.not_not, Int32.reduceToInt, Int64.reduceToInt] at *; omega) | (simp_all; done))).trans ?_; first | (with_reducible rfl) | (simp only [*, ix_0, ix_1, ix_2, ix_3, ix_4]; done) | (simp [*, ix_0, ix_1, ix_2, ix_3, ix_4]; done) | rfl | (simp_all [ix_0, ix_1, ix_2, ix_3, ix_4]; done)) eq65.rf)
set_option maxRecDepth 100000 in
set_option maxHeartbeats 4000000 in
theorem ev_X7_set {t w v : Int32} (ok : okN mf) : xEv X false (d + 2) 0 0 mX7_set [.ref 62, .int t, .int w, .int v] (hp lk o mf wf q) (RQ lk o q (sp_set mf t w v)) := by
  have h8 := ok.2.1
  refine xEv.of (ls := [some (.ref 62), some (.int t), some (.int w), some (.int v)]) mcX7_set.1.2.2.2.2 (Nat.le_of_ble_eq_true rfl) rfl ?_
  refine xg_aload_n (pc := 0) dX7_set_0 rfl ?_
  refine xg_iload_n (pc := 1) dX7_set_1 rfl ?_
  refine xg_cvI (pc := 2) (h1 := hp lk o mf wf q) (x := if 0 ≤ t ∧ t < mf 3 then 1 else 0) (M' := mX7_isThing) dX7_set_2 lkX7_106 mcX7_isThing hp_62 rfl (ev_isT ok) rfl rfl (Nat.le_of_ble_eq_true rfl) ?_
  refine xg_bz (pc := 5) (tgt := 31) dX7_set_5 (by decide) (fun c_5 => ?_) (fun c_5 => ?_)
  ·
    refine xg_aload_n (pc := 31) dX7_set_31 rfl ?_
    refine xg_ldc (v := -1000000001) (pc := 32) dX7_set_32 ccX7_42 ?_
    refine xg_cvI (pc := 34) (h1 := hp lk o mf wf (q.1, q.2.1, upd q.2.2.1 0 (q.2.2.1 0 + 1), q.2.2.2.1, q.2.2.2.2.1, q.2.2.2.2.2.1, q.2.2.2.2.2.2.1, q.2.2.2.2.2.2.2.1, q.2.2.2.2.2.2.2.2.1, q.2.2.2.2.2.2.2.2.2.1, q.2.2.2.2.2.2.2.2.2.2.1, q.2.2.2.2.2.2.2.2.2.2.2.1, q.2.2.2.2.2.2.2.2.2.2.2.2.1, q.2.2.2.2.2.2.2.2.2.2.2.2.2.1, q.2.2.2.2.2.2.2.2.2.2.2.2.2.2)) (x := -1000000001) (M' := mX7_finds) dX7_set_34 lkX7_44 mcX7_finds hp_62 rfl (ev_X7_finds (j := 0) (by decide) (by decide)) rfl rfl (Nat.le_of_ble_eq_true rfl) ?_
    exact xg_iret (pc := 37) dX7_set_37 rfl (rqR (j := (some 0)) (g := mf) (by unfold sp_set; refine (if_neg (by first | exact ⟨c_5, c_13⟩ | exact (fun q => c_5 q.1) | exact (fun q => c_13 q.2))).trans ?_; first | (with_reducible rfl) | (simp only [*, ix_0, ix_1, ix_2, ix_3, ix_4]; done) | (simp [*, ix_0, ix_1, ix_2, ix_3, ix_4]; done) | rfl | (simp_all [ix_0, ix_1, ix_2, ix_3, ix_4]; done)) eq65.rf)
  ·
    refine xg_iload_n (pc := 8) dX7_set_8 rfl ?_
    refine xg_iload_n (pc := 9) dX7_set_9 rfl ?_
    refine xg_csI (pc := 10) (h1 := hp lk o mf wf q) (x := if may w v then 1 else 0) (M' := mX7_mayBe) dX7_set_10 lkX7_98 mcX7_mayBe (ev_X7_mayBe) rfl rfl (Nat.le_of_ble_eq_true rfl) ?_
    refine xg_bz (pc := 13) (tgt := 31) dX7_set_13 (by decide) (fun c_13 => ?_) (fun c_13 => ?_)
    ·
      refine xg_aload_n (pc := 31) dX7_set_31 rfl ?_
      refine xg_ldc (v := -1000000001) (pc := 32) dX7_set_32 ccX7_42 ?_
      refine xg_cvI (pc := 34) (h1 := hp lk o mf wf (q.1, q.2.1, upd q.2.2.1 0 (q.2.2.1 0 + 1), q.2.2.2.1, q.2.2.2.2.1, q.2.2.2.2.2.1, q.2.2.2.2.2.2.1, q.2.2.2.2.2.2.2.1, q.2.2.2.2.2.2.2.2.1, q.2.2.2.2.2.2.2.2.2.1, q.2.2.2.2.2.2.2.2.2.2.1, q.2.2.2.2.2.2.2.2.2.2.2.1, q.2.2.2.2.2.2.2.2.2.2.2.2.1, q.2.2.2.2.2.2.2.2.2.2.2.2.2.1, q.2.2.2.2.2.2.2.2.2.2.2.2.2.2)) (x := -1000000001) (M' := mX7_finds) dX7_set_34 lkX7_44 mcX7_finds hp_62 rfl (ev_X7_finds (j := 0) (by decide) (by decide)) rfl rfl (Nat.le_of_ble_eq_true rfl) ?_
      exact xg_iret (pc := 37) dX7_set_37 rfl (rqR (j := (some 0)) (g := mf) (by unfold sp_set; refine (if_neg (by first | exact ⟨c_5, c_13⟩ | exact (fun q => c_5 q.1) | exact (fun q => c_13 q.2))).trans ?_; first | (with_reducible rfl) | (simp only [*, ix_0, ix_1, ix_2, ix_3, ix_4]; done) | (simp [*, ix_0, ix_1, ix_2, ix_3, ix_4]; done) | rfl | (simp_all [ix_0, ix_1, ix_2, ix_3, ix_4]; done)) eq65.rf)
    ·
      obtain ⟨tn, htn, rfl⟩ := idxT ok c_5
      have etn : ix (nI tn) = tn := nI_clamp (by omega)
      refine xg_aload_n (pc := 16) dX7_set_16 rfl ?_
      rcases may4 c_13 with rfl | rfl | rfl | rfl
      ·
        refine xg_iconst (v := 5) (pc := 17) dX7_set_17 (by decide) ?_
        refine xg_iconst (v := 5) (pc := 18) dX7_set_18 (by decide) ?_
        refine xg_iload_n (pc := 19) dX7_set_19 rfl ?_
        refine xg_imul (pc := 20) dX7_set_20 ?_
        refine xg_iadd (pc := 21) dX7_set_21 ?_
        refine xg_iload_n (pc := 22) dX7_set_22 rfl ?_
        refine xg_iadd (pc := 23) dX7_set_23 ?_
        refine xg_iload_n (pc := 24) dX7_set_24 rfl ?_
        refine xg_eq2 (show ((5 + (5 * (nI tn))) + 1 : Int32) = nI (5 + 5 * tn + 1) from by simp only [xlit, nI_add, pk_mul]) ?_
        refine xg_cvI (pc := 25) (h1 := hp lk o (upd mf (5 + 5 * tn + 1) v) wf q) (x := mf (5 + 5 * tn + 1)) (M' := mX7_becomes) dX7_set_25 lkX7_80 mcX7_becomes hp_62 rfl (ev_X7_becomes (j := (5 + 5 * tn + 1)) (by omega)) rfl rfl (Nat.le_of_ble_eq_true rfl) ?_
        refine xg_goto (pc := 28) (tgt := 37) dX7_set_28 (by decide) ?_
        exact xg_iret (pc := 37) dX7_set_37 rfl (rqR (j := none) (g := upd mf (5 + 5 * tn + 1) v) (by unfold sp_set; refine (if_pos (by first | exact ⟨c_5, c_13⟩ | exact (fun q => c_5 q.1) | exact (fun q => c_13 q.2))).trans ?_; first | (with_reducible rfl) | (simp only [*, ix_0, ix_1, ix_2, ix_3, ix_4]; done) | (simp [*, ix_0, ix_1, ix_2, ix_3, ix_4]; done) | rfl | (simp_all [ix_0, ix_1, ix_2, ix_3, ix_4]; done)) eq65.rf)
      ·
        refine xg_iconst (v := 5) (pc := 17) dX7_set_17 (by decide) ?_
        refine xg_iconst (v := 5) (pc := 18) dX7_set_18 (by decide) ?_
        refine xg_iload_n (pc := 19) dX7_set_19 rfl ?_
        refine xg_imul (pc := 20) dX7_set_20 ?_
        refine xg_iadd (pc := 21) dX7_set_21 ?_
        refine xg_iload_n (pc := 22) dX7_set_22 rfl ?_
        refine xg_iadd (pc := 23) dX7_set_23 ?_
        refine xg_iload_n (pc := 24) dX7_set_24 rfl ?_
        refine xg_eq2 (show ((5 + (5 * (nI tn))) + 2 : Int32) = nI (5 + 5 * tn + 2) from by simp only [xlit, nI_add, pk_mul]) ?_
        refine xg_cvI (pc := 25) (h1 := hp lk o (upd mf (5 + 5 * tn + 2) v) wf q) (x := mf (5 + 5 * tn + 2)) (M' := mX7_becomes) dX7_set_25 lkX7_80 mcX7_becomes hp_62 rfl (ev_X7_becomes (j := (5 + 5 * tn + 2)) (by omega)) rfl rfl (Nat.le_of_ble_eq_true rfl) ?_
        refine xg_goto (pc := 28) (tgt := 37) dX7_set_28 (by decide) ?_
        exact xg_iret (pc := 37) dX7_set_37 rfl (rqR (j := none) (g := upd mf (5 + 5 * tn + 2) v) (by unfold sp_set; refine (if_pos (by first | exact ⟨c_5, c_13⟩ | exact (fun q => c_5 q.1) | exact (fun q => c_13 q.2))).trans ?_; first | (with_reducible rfl) | (simp only [*, ix_0, ix_1, ix_2, ix_3, ix_4]; done) | (simp [*, ix_0, ix_1, ix_2, ix_3, ix_4]; done) | rfl | (simp_all [ix_0, ix_1, ix_2, ix_3, ix_4]; done)) eq65.rf)
      ·
        refine xg_iconst (v := 5) (pc := 17) dX7_set_17 (by decide) ?_
        refine xg_iconst (v := 5) (pc := 18) dX7_set_18 (by decide) ?_
        refine xg_iload_n (pc := 19) dX7_set_19 rfl ?_
        refine xg_imul (pc := 20) dX7_set_20 ?_
        refine xg_iadd (pc := 21) dX7_set_21 ?_
        refine xg_iload_n (pc := 22) dX7_set_22 rfl ?_
        refine xg_iadd (pc := 23) dX7_set_23 ?_
        refine xg_iload_n (pc := 24) dX7_set_24 rfl ?_
        refine xg_eq2 (show ((5 + (5 * (nI tn))) + 3 : Int32) = nI (5 + 5 * tn + 3) from by simp only [xlit, nI_add, pk_mul]) ?_
        refine xg_cvI (pc := 25) (h1 := hp lk o (upd mf (5 + 5 * tn + 3) v) wf q) (x := mf (5 + 5 * tn + 3)) (M' := mX7_becomes) dX7_set_25 lkX7_80 mcX7_becomes hp_62 rfl (ev_X7_becomes (j := (5 + 5 * tn + 3)) (by omega)) rfl rfl (Nat.le_of_ble_eq_true rfl) ?_
        refine xg_goto (pc := 28) (tgt := 37) dX7_set_28 (by decide) ?_
        exact xg_iret (pc := 37) dX7_set_37 rfl (rqR (j := none) (g := upd mf (5 + 5 * tn + 3) v) (by unfold sp_set; refine (if_pos (by first | exact ⟨c_5, c_13⟩ | exact (fun q => c_5 q.1) | exact (fun q => c_13 q.2))).trans ?_; first | (with_reducible rfl) | (simp only [*, ix_0, ix_1, ix_2, ix_3, ix_4]; done) | (simp [*, ix_0, ix_1, ix_2, ix_3, ix_4]; done) | rfl | (simp_all [ix_0, ix_1, ix_2, ix_3, ix_4]; done)) eq65.rf)
      ·
        refine xg_iconst (v := 5) (pc := 17) dX7_set_17 (by decide) ?_
        refine xg_iconst (v := 5) (pc := 18) dX7_set_18 (by decide) ?_
        refine xg_iload_n (pc := 19) dX7_set_19 rfl ?_
        refine xg_imul (pc := 20) dX7_set_20 ?_
        refine xg_iadd (pc := 21) dX7_set_21 ?_
        refine xg_iload_n (pc := 22) dX7_set_22 rfl ?_
        refine xg_iadd (pc := 23) dX7_set_23 ?_
        refine xg_iload_n (pc := 24) dX7_set_24 rfl ?_
        refine xg_eq2 (show ((5 + (5 * (nI tn))) + 4 : Int32) = nI (5 + 5 * tn + 4) from by simp only [xlit, nI_add, pk_mul]) ?_
        refine xg_cvI (pc := 25) (h1 := hp lk o (upd mf (5 + 5 * tn + 4) v) wf q) (x := mf (5 + 5 * tn + 4)) (M' := mX7_becomes) dX7_set_25 lkX7_80 mcX7_becomes hp_62 rfl (ev_X7_becomes (j := (5 + 5 * tn + 4)) (by omega)) rfl rfl (Nat.le_of_ble_eq_true rfl) ?_
        refine xg_goto (pc := 28) (tgt := 37) dX7_set_28 (by decide) ?_
        exact xg_iret (pc := 37) dX7_set_37 rfl (rqR (j := none) (g := upd mf (5 + 5 * tn + 4) v) (by unfold sp_set; refine (if_pos (by first | exact ⟨c_5, c_13⟩ | exact (fun q => c_5 q.1) | exact (fun q => c_13 q.2))).trans ?_; first | (with_reducible rfl) | (simp only [*, ix_0, ix_1, ix_2, ix_3, ix_4]; done) | (simp [*, ix_0, ix_1, ix_2, ix_3, ix_4]; done) | rfl | (simp_all [ix_0, ix_1, ix_2, ix_3, ix_4]; done)) eq65.rf)
set_option maxRecDepth 100000 in
set_option maxHeartbeats 4000000 in
theorem ev_X7_as {t k : Int32} (ok : okN mf) : xEv X false (d + 2) 0 0 mX7_as [.ref 62, .int t, .int k] (hp lk o mf wf q) (RQ lk o q (sp_as mf t k)) := by
  have h8 := ok.2.1
  refine xEv.of (ls := [some (.ref 62), some (.int t), some (.int k), none, none]) mcX7_as.1.2.2.2.2 (Nat.le_of_ble_eq_true rfl) rfl ?_
  refine xg_aload_n (pc := 0) dX7_as_0 rfl ?_
  refine xg_iload_n (pc := 1) dX7_as_1 rfl ?_
  refine xg_cvI (pc := 2) (h1 := hp lk o mf wf q) (x := if 0 ≤ t ∧ t < mf 3 then 1 else 0) (M' := mX7_isThing) dX7_as_2 lkX7_106 mcX7_isThing hp_62 rfl (ev_isT ok) rfl rfl (Nat.le_of_ble_eq_true rfl) ?_
  refine xg_bz (pc := 5) (tgt := 18) dX7_as_5 (by decide) (fun c_5 => ?_) (fun c_5 => ?_)
  ·
    refine xg_aload_n (pc := 18) dX7_as_18 rfl ?_
    refine xg_ldc (v := -1000000001) (pc := 19) dX7_as_19 ccX7_42 ?_
    refine xg_cvI (pc := 21) (h1 := hp lk o mf wf (q.1, q.2.1, upd q.2.2.1 0 (q.2.2.1 0 + 1), q.2.2.2.1, q.2.2.2.2.1, q.2.2.2.2.2.1, q.2.2.2.2.2.2.1, q.2.2.2.2.2.2.2.1, q.2.2.2.2.2.2.2.2.1, q.2.2.2.2.2.2.2.2.2.1, q.2.2.2.2.2.2.2.2.2.2.1, q.2.2.2.2.2.2.2.2.2.2.2.1, q.2.2.2.2.2.2.2.2.2.2.2.2.1, q.2.2.2.2.2.2.2.2.2.2.2.2.2.1, q.2.2.2.2.2.2.2.2.2.2.2.2.2.2)) (x := -1000000001) (M' := mX7_finds) dX7_as_21 lkX7_44 mcX7_finds hp_62 rfl (ev_X7_finds (j := 0) (by decide) (by decide)) rfl rfl (Nat.le_of_ble_eq_true rfl) ?_
    exact xg_iret (pc := 24) dX7_as_24 rfl (rqR (j := (some 0)) (g := mf) (by unfold sp_as; refine (if_neg (by first | assumption | exact ⟨by assumption, by assumption⟩ | exact (fun q => c_5 q.1) | exact (fun q => c_15 q.2) | (rw [etn]; simp only [kof, Int32.lt_iff_toInt_lt, Int32.le_iff_toInt_le, Int32.not_lt, Int32.not_le, ← Int32.toInt_inj, Int64.lt_iff_toInt_lt, Int64.le_iff_toInt_le, Int64.not_lt, Int64.not_le, Classical.not_not, Int32.reduceToInt, Int64.reduceToInt] at *; omega))).trans ?_; first | (with_reducible rfl) | (simp only [*, ix_0, ix_1, ix_2, ix_3, ix_4]; done) | (simp [*, ix_0, ix_1, ix_2, ix_3, ix_4]; done) | rfl | (simp_all [ix_0, ix_1, ix_2, ix_3, ix_4]; done)) eq65.rf)
  ·
    refine xg_iload_n (pc := 8) dX7_as_8 rfl ?_
    refine xg_i2l (pc := 9) dX7_as_9 ?_
    refine xg_iconst (v := 0) (pc := 10) dX7_as_10 (by decide) ?_
    refine xg_iconst (v := 5) (pc := 11) dX7_as_11 (by decide) ?_
    refine xg_csI (pc := 12) (h1 := hp lk o mf wf q) (x := if 0 ≤ k ∧ k ≤ 5 then 1 else 0) (M' := mX7_in) dX7_as_12 lkX7_48 mcX7_in (ev_in) rfl rfl (Nat.le_of_ble_eq_true rfl) ?_
    refine xg_bnz (pc := 15) (tgt := 25) dX7_as_15 (by decide) (fun c_15 => ?_) (fun c_15 => ?_)
    ·
      obtain ⟨tn, htn, rfl⟩ := idxT ok c_5
      have etn : ix (nI tn) = tn := nI_clamp (by omega)
      refine xg_aload_n (pc := 25) dX7_as_25 rfl ?_
      refine xg_iload_n (pc := 26) dX7_as_26 rfl ?_
      refine xg_iconst (v := 0) (pc := 27) dX7_as_27 (by decide) ?_
      refine xg_cvI (pc := 28) (h1 := hp lk o mf wf q) (x := mf (5 + 5 * tn)) (M' := mX7_lit) dX7_as_28 lkX7_52 mcX7_lit hp_62 rfl (ev_X7_lit (t := tn) (w := 0) (by omega)) rfl rfl (Nat.le_of_ble_eq_true rfl) ?_
      refine xg_istore_n (pc := 31) (ls' := [some (.ref 62), some (.int (nI tn)), some (.int k), some (.int (mf (5 + 5 * tn))), none]) dX7_as_31 (by decide) rfl ?_
      refine xg_iload_n (pc := 32) dX7_as_32 rfl ?_
      refine xg_if_eq (pc := 33) (tgt := 61) dX7_as_33 (by decide) (fun c_33 => ?_) (fun c_33 => ?_)
      ·
        refine xg_iconst (v := 1) (pc := 61) dX7_as_61 (by decide) ?_
        refine xg_goto (pc := 62) (tgt := 66) dX7_as_62 (by decide) ?_
        refine xg_istore (pc := 66) (ls' := [some (.ref 62), some (.int (nI tn)), some (.int k), some (.int (mf (5 + 5 * tn))), some (.int 1)]) dX7_as_66 (by decide) rfl ?_
        refine xg_iload (pc := 68) dX7_as_68 rfl ?_
        refine xg_if_eq (pc := 70) (tgt := 82) dX7_as_70 (by decide) (fun c_70 => absurd c_70 (by decide)) (fun c_70 => ?_)
        refine xg_aload_n (pc := 73) dX7_as_73 rfl ?_
        refine xg_iload_n (pc := 74) dX7_as_74 rfl ?_
        refine xg_iconst (v := 3) (pc := 75) dX7_as_75 (by decide) ?_
        refine xg_cvI (pc := 76) (h1 := hp lk o mf wf q) (x := mf (5 + 5 * tn + 3)) (M' := mX7_lit) dX7_as_76 lkX7_52 mcX7_lit hp_62 rfl (ev_X7_lit (t := tn) (w := 3) (by omega)) rfl rfl (Nat.le_of_ble_eq_true rfl) ?_
        refine xg_goto (pc := 79) (tgt := 88) dX7_as_79 (by decide) ?_
        exact xg_iret (pc := 88) dX7_as_88 rfl (rqR (j := none) (g := mf) (by unfold sp_as; refine (if_pos (by first | assumption | exact ⟨by assumption, by assumption⟩ | exact (fun q => c_5 q.1) | exact (fun q => c_15 q.2) | (rw [etn]; simp only [kof, Int32.lt_iff_toInt_lt, Int32.le_iff_toInt_le, Int32.not_lt, Int32.not_le, ← Int32.toInt_inj, Int64.lt_iff_toInt_lt, Int64.le_iff_toInt_le, Int64.not_lt, Int64.not_le, Classical.not_not, Int32.reduceToInt, Int64.reduceToInt] at *; omega))).trans ?_; refine (if_pos (by first | assumption | exact ⟨by assumption, by assumption⟩ | exact (fun q => c_5 q.1) | exact (fun q => c_15 q.2) | (rw [etn]; simp only [kof, Int32.lt_iff_toInt_lt, Int32.le_iff_toInt_le, Int32.not_lt, Int32.not_le, ← Int32.toInt_inj, Int64.lt_iff_toInt_lt, Int64.le_iff_toInt_le, Int64.not_lt, Int64.not_le, Classical.not_not, Int32.reduceToInt, Int64.reduceToInt] at *; omega))).trans ?_; first | (with_reducible rfl) | (simp only [*, ix_0, ix_1, ix_2, ix_3, ix_4]; done) | (simp [*, ix_0, ix_1, ix_2, ix_3, ix_4]; done) | rfl | (simp_all [ix_0, ix_1, ix_2, ix_3, ix_4]; done)) eq65.rf)
      ·
        refine xg_iload_n (pc := 36) dX7_as_36 rfl ?_
        refine xg_iload_n (pc := 37) dX7_as_37 rfl ?_
        refine xg_icmp_eq (pc := 38) (tgt := 61) dX7_as_38 (by decide) (fun c_38 => ?_) (fun c_38 => ?_)
        ·
          refine xg_iconst (v := 1) (pc := 61) dX7_as_61 (by decide) ?_
          refine xg_goto (pc := 62) (tgt := 66) dX7_as_62 (by decide) ?_
          refine xg_istore (pc := 66) (ls' := [some (.ref 62), some (.int (nI tn)), some (.int k), some (.int (mf (5 + 5 * tn))), some (.int 1)]) dX7_as_66 (by decide) rfl ?_
          refine xg_iload (pc := 68) dX7_as_68 rfl ?_
          refine xg_if_eq (pc := 70) (tgt := 82) dX7_as_70 (by decide) (fun c_70 => absurd c_70 (by decide)) (fun c_70 => ?_)
          refine xg_aload_n (pc := 73) dX7_as_73 rfl ?_
          refine xg_iload_n (pc := 74) dX7_as_74 rfl ?_
          refine xg_iconst (v := 3) (pc := 75) dX7_as_75 (by decide) ?_
          refine xg_cvI (pc := 76) (h1 := hp lk o mf wf q) (x := mf (5 + 5 * tn + 3)) (M' := mX7_lit) dX7_as_76 lkX7_52 mcX7_lit hp_62 rfl (ev_X7_lit (t := tn) (w := 3) (by omega)) rfl rfl (Nat.le_of_ble_eq_true rfl) ?_
          refine xg_goto (pc := 79) (tgt := 88) dX7_as_79 (by decide) ?_
          exact xg_iret (pc := 88) dX7_as_88 rfl (rqR (j := none) (g := mf) (by unfold sp_as; refine (if_pos (by first | assumption | exact ⟨by assumption, by assumption⟩ | exact (fun q => c_5 q.1) | exact (fun q => c_15 q.2) | (rw [etn]; simp only [kof, Int32.lt_iff_toInt_lt, Int32.le_iff_toInt_le, Int32.not_lt, Int32.not_le, ← Int32.toInt_inj, Int64.lt_iff_toInt_lt, Int64.le_iff_toInt_le, Int64.not_lt, Int64.not_le, Classical.not_not, Int32.reduceToInt, Int64.reduceToInt] at *; omega))).trans ?_; refine (if_pos (by first | assumption | exact ⟨by assumption, by assumption⟩ | exact (fun q => c_5 q.1) | exact (fun q => c_15 q.2) | (rw [etn]; simp only [kof, Int32.lt_iff_toInt_lt, Int32.le_iff_toInt_le, Int32.not_lt, Int32.not_le, ← Int32.toInt_inj, Int64.lt_iff_toInt_lt, Int64.le_iff_toInt_le, Int64.not_lt, Int64.not_le, Classical.not_not, Int32.reduceToInt, Int64.reduceToInt] at *; omega))).trans ?_; first | (with_reducible rfl) | (simp only [*, ix_0, ix_1, ix_2, ix_3, ix_4]; done) | (simp [*, ix_0, ix_1, ix_2, ix_3, ix_4]; done) | rfl | (simp_all [ix_0, ix_1, ix_2, ix_3, ix_4]; done)) eq65.rf)
        ·
          refine xg_iload_n (pc := 41) dX7_as_41 rfl ?_
          refine xg_iconst (v := 1) (pc := 42) dX7_as_42 (by decide) ?_
          refine xg_icmp_ne (pc := 43) (tgt := 51) dX7_as_43 (by decide) (fun c_43 => ?_) (fun c_43 => ?_)
          ·
            refine xg_iload_n (pc := 51) dX7_as_51 rfl ?_
            refine xg_iconst (v := 2) (pc := 52) dX7_as_52 (by decide) ?_
            refine xg_icmp_ne (pc := 53) (tgt := 65) dX7_as_53 (by decide) (fun c_53 => ?_) (fun c_53 => ?_)
            ·
              refine xg_iconst (v := 0) (pc := 65) dX7_as_65 (by decide) ?_
              refine xg_istore (pc := 66) (ls' := [some (.ref 62), some (.int (nI tn)), some (.int k), some (.int (mf (5 + 5 * tn))), some (.int 0)]) dX7_as_66 (by decide) rfl ?_
              refine xg_iload (pc := 68) dX7_as_68 rfl ?_
              refine xg_if_eq (pc := 70) (tgt := 82) dX7_as_70 (by decide) (fun c_70 => ?_) (fun c_70 => absurd c_70 (by decide))
              refine xg_aload_n (pc := 82) dX7_as_82 rfl ?_
              refine xg_ldc (v := -1000000003) (pc := 83) dX7_as_83 ccX7_109 ?_
              refine xg_cvI (pc := 85) (h1 := hp lk o mf wf (q.1, q.2.1, upd q.2.2.1 2 (q.2.2.1 2 + 1), q.2.2.2.1, q.2.2.2.2.1, q.2.2.2.2.2.1, q.2.2.2.2.2.2.1, q.2.2.2.2.2.2.2.1, q.2.2.2.2.2.2.2.2.1, q.2.2.2.2.2.2.2.2.2.1, q.2.2.2.2.2.2.2.2.2.2.1, q.2.2.2.2.2.2.2.2.2.2.2.1, q.2.2.2.2.2.2.2.2.2.2.2.2.1, q.2.2.2.2.2.2.2.2.2.2.2.2.2.1, q.2.2.2.2.2.2.2.2.2.2.2.2.2.2)) (x := -1000000003) (M' := mX7_finds) dX7_as_85 lkX7_44 mcX7_finds hp_62 rfl (ev_X7_finds (j := 2) (by decide) (by decide)) rfl rfl (Nat.le_of_ble_eq_true rfl) ?_
              exact xg_iret (pc := 88) dX7_as_88 rfl (rqR (j := (some 2)) (g := mf) (by unfold sp_as; refine (if_pos (by first | assumption | exact ⟨by assumption, by assumption⟩ | exact (fun q => c_5 q.1) | exact (fun q => c_15 q.2) | (rw [etn]; simp only [kof, Int32.lt_iff_toInt_lt, Int32.le_iff_toInt_le, Int32.not_lt, Int32.not_le, ← Int32.toInt_inj, Int64.lt_iff_toInt_lt, Int64.le_iff_toInt_le, Int64.not_lt, Int64.not_le, Classical.not_not, Int32.reduceToInt, Int64.reduceToInt] at *; omega))).trans ?_; refine (if_neg (by first | assumption | exact ⟨by assumption, by assumption⟩ | exact (fun q => c_5 q.1) | exact (fun q => c_15 q.2) | (rw [etn]; simp only [kof, Int32.lt_iff_toInt_lt, Int32.le_iff_toInt_le, Int32.not_lt, Int32.not_le, ← Int32.toInt_inj, Int64.lt_iff_toInt_lt, Int64.le_iff_toInt_le, Int64.not_lt, Int64.not_le, Classical.not_not, Int32.reduceToInt, Int64.reduceToInt] at *; omega))).trans ?_; first | (with_reducible rfl) | (simp only [*, ix_0, ix_1, ix_2, ix_3, ix_4]; done) | (simp [*, ix_0, ix_1, ix_2, ix_3, ix_4]; done) | rfl | (simp_all [ix_0, ix_1, ix_2, ix_3, ix_4]; done)) eq65.rf)
            ·
              refine xg_iload_n (pc := 56) dX7_as_56 rfl ?_
              refine xg_iconst (v := 5) (pc := 57) dX7_as_57 (by decide) ?_
              refine xg_icmp_ne (pc := 58) (tgt := 65) dX7_as_58 (by decide) (fun c_58 => ?_) (fun c_58 => ?_)
              ·
                refine xg_iconst (v := 0) (pc := 65) dX7_as_65 (by decide) ?_
                refine xg_istore (pc := 66) (ls' := [some (.ref 62), some (.int (nI tn)), some (.int k), some (.int (mf (5 + 5 * tn))), some (.int 0)]) dX7_as_66 (by decide) rfl ?_
                refine xg_iload (pc := 68) dX7_as_68 rfl ?_
                refine xg_if_eq (pc := 70) (tgt := 82) dX7_as_70 (by decide) (fun c_70 => ?_) (fun c_70 => absurd c_70 (by decide))
                refine xg_aload_n (pc := 82) dX7_as_82 rfl ?_
                refine xg_ldc (v := -1000000003) (pc := 83) dX7_as_83 ccX7_109 ?_
                refine xg_cvI (pc := 85) (h1 := hp lk o mf wf (q.1, q.2.1, upd q.2.2.1 2 (q.2.2.1 2 + 1), q.2.2.2.1, q.2.2.2.2.1, q.2.2.2.2.2.1, q.2.2.2.2.2.2.1, q.2.2.2.2.2.2.2.1, q.2.2.2.2.2.2.2.2.1, q.2.2.2.2.2.2.2.2.2.1, q.2.2.2.2.2.2.2.2.2.2.1, q.2.2.2.2.2.2.2.2.2.2.2.1, q.2.2.2.2.2.2.2.2.2.2.2.2.1, q.2.2.2.2.2.2.2.2.2.2.2.2.2.1, q.2.2.2.2.2.2.2.2.2.2.2.2.2.2)) (x := -1000000003) (M' := mX7_finds) dX7_as_85 lkX7_44 mcX7_finds hp_62 rfl (ev_X7_finds (j := 2) (by decide) (by decide)) rfl rfl (Nat.le_of_ble_eq_true rfl) ?_
                exact xg_iret (pc := 88) dX7_as_88 rfl (rqR (j := (some 2)) (g := mf) (by unfold sp_as; refine (if_pos (by first | assumption | exact ⟨by assumption, by assumption⟩ | exact (fun q => c_5 q.1) | exact (fun q => c_15 q.2) | (rw [etn]; simp only [kof, Int32.lt_iff_toInt_lt, Int32.le_iff_toInt_le, Int32.not_lt, Int32.not_le, ← Int32.toInt_inj, Int64.lt_iff_toInt_lt, Int64.le_iff_toInt_le, Int64.not_lt, Int64.not_le, Classical.not_not, Int32.reduceToInt, Int64.reduceToInt] at *; omega))).trans ?_; refine (if_neg (by first | assumption | exact ⟨by assumption, by assumption⟩ | exact (fun q => c_5 q.1) | exact (fun q => c_15 q.2) | (rw [etn]; simp only [kof, Int32.lt_iff_toInt_lt, Int32.le_iff_toInt_le, Int32.not_lt, Int32.not_le, ← Int32.toInt_inj, Int64.lt_iff_toInt_lt, Int64.le_iff_toInt_le, Int64.not_lt, Int64.not_le, Classical.not_not, Int32.reduceToInt, Int64.reduceToInt] at *; omega))).trans ?_; first | (with_reducible rfl) | (simp only [*, ix_0, ix_1, ix_2, ix_3, ix_4]; done) | (simp [*, ix_0, ix_1, ix_2, ix_3, ix_4]; done) | rfl | (simp_all [ix_0, ix_1, ix_2, ix_3, ix_4]; done)) eq65.rf)
              ·
                refine xg_iconst (v := 1) (pc := 61) dX7_as_61 (by decide) ?_
                refine xg_goto (pc := 62) (tgt := 66) dX7_as_62 (by decide) ?_
                refine xg_istore (pc := 66) (ls' := [some (.ref 62), some (.int (nI tn)), some (.int k), some (.int (mf (5 + 5 * tn))), some (.int 1)]) dX7_as_66 (by decide) rfl ?_
                refine xg_iload (pc := 68) dX7_as_68 rfl ?_
                refine xg_if_eq (pc := 70) (tgt := 82) dX7_as_70 (by decide) (fun c_70 => absurd c_70 (by decide)) (fun c_70 => ?_)
                refine xg_aload_n (pc := 73) dX7_as_73 rfl ?_
                refine xg_iload_n (pc := 74) dX7_as_74 rfl ?_
                refine xg_iconst (v := 3) (pc := 75) dX7_as_75 (by decide) ?_
                refine xg_cvI (pc := 76) (h1 := hp lk o mf wf q) (x := mf (5 + 5 * tn + 3)) (M' := mX7_lit) dX7_as_76 lkX7_52 mcX7_lit hp_62 rfl (ev_X7_lit (t := tn) (w := 3) (by omega)) rfl rfl (Nat.le_of_ble_eq_true rfl) ?_
                refine xg_goto (pc := 79) (tgt := 88) dX7_as_79 (by decide) ?_
                exact xg_iret (pc := 88) dX7_as_88 rfl (rqR (j := none) (g := mf) (by unfold sp_as; refine (if_pos (by first | assumption | exact ⟨by assumption, by assumption⟩ | exact (fun q => c_5 q.1) | exact (fun q => c_15 q.2) | (rw [etn]; simp only [kof, Int32.lt_iff_toInt_lt, Int32.le_iff_toInt_le, Int32.not_lt, Int32.not_le, ← Int32.toInt_inj, Int64.lt_iff_toInt_lt, Int64.le_iff_toInt_le, Int64.not_lt, Int64.not_le, Classical.not_not, Int32.reduceToInt, Int64.reduceToInt] at *; omega))).trans ?_; refine (if_pos (by first | assumption | exact ⟨by assumption, by assumption⟩ | exact (fun q => c_5 q.1) | exact (fun q => c_15 q.2) | (rw [etn]; simp only [kof, Int32.lt_iff_toInt_lt, Int32.le_iff_toInt_le, Int32.not_lt, Int32.not_le, ← Int32.toInt_inj, Int64.lt_iff_toInt_lt, Int64.le_iff_toInt_le, Int64.not_lt, Int64.not_le, Classical.not_not, Int32.reduceToInt, Int64.reduceToInt] at *; omega))).trans ?_; first | (with_reducible rfl) | (simp only [*, ix_0, ix_1, ix_2, ix_3, ix_4]; done) | (simp [*, ix_0, ix_1, ix_2, ix_3, ix_4]; done) | rfl | (simp_all [ix_0, ix_1, ix_2, ix_3, ix_4]; done)) eq65.rf)
          ·
            refine xg_iload_n (pc := 46) dX7_as_46 rfl ?_
            refine xg_iconst (v := 4) (pc := 47) dX7_as_47 (by decide) ?_
            refine xg_icmp_eq (pc := 48) (tgt := 61) dX7_as_48 (by decide) (fun c_48 => ?_) (fun c_48 => ?_)
            ·
              refine xg_iconst (v := 1) (pc := 61) dX7_as_61 (by decide) ?_
              refine xg_goto (pc := 62) (tgt := 66) dX7_as_62 (by decide) ?_
              refine xg_istore (pc := 66) (ls' := [some (.ref 62), some (.int (nI tn)), some (.int k), some (.int (mf (5 + 5 * tn))), some (.int 1)]) dX7_as_66 (by decide) rfl ?_
              refine xg_iload (pc := 68) dX7_as_68 rfl ?_
              refine xg_if_eq (pc := 70) (tgt := 82) dX7_as_70 (by decide) (fun c_70 => absurd c_70 (by decide)) (fun c_70 => ?_)
              refine xg_aload_n (pc := 73) dX7_as_73 rfl ?_
              refine xg_iload_n (pc := 74) dX7_as_74 rfl ?_
              refine xg_iconst (v := 3) (pc := 75) dX7_as_75 (by decide) ?_
              refine xg_cvI (pc := 76) (h1 := hp lk o mf wf q) (x := mf (5 + 5 * tn + 3)) (M' := mX7_lit) dX7_as_76 lkX7_52 mcX7_lit hp_62 rfl (ev_X7_lit (t := tn) (w := 3) (by omega)) rfl rfl (Nat.le_of_ble_eq_true rfl) ?_
              refine xg_goto (pc := 79) (tgt := 88) dX7_as_79 (by decide) ?_
              exact xg_iret (pc := 88) dX7_as_88 rfl (rqR (j := none) (g := mf) (by unfold sp_as; refine (if_pos (by first | assumption | exact ⟨by assumption, by assumption⟩ | exact (fun q => c_5 q.1) | exact (fun q => c_15 q.2) | (rw [etn]; simp only [kof, Int32.lt_iff_toInt_lt, Int32.le_iff_toInt_le, Int32.not_lt, Int32.not_le, ← Int32.toInt_inj, Int64.lt_iff_toInt_lt, Int64.le_iff_toInt_le, Int64.not_lt, Int64.not_le, Classical.not_not, Int32.reduceToInt, Int64.reduceToInt] at *; omega))).trans ?_; refine (if_pos (by first | assumption | exact ⟨by assumption, by assumption⟩ | exact (fun q => c_5 q.1) | exact (fun q => c_15 q.2) | (rw [etn]; simp only [kof, Int32.lt_iff_toInt_lt, Int32.le_iff_toInt_le, Int32.not_lt, Int32.not_le, ← Int32.toInt_inj, Int64.lt_iff_toInt_lt, Int64.le_iff_toInt_le, Int64.not_lt, Int64.not_le, Classical.not_not, Int32.reduceToInt, Int64.reduceToInt] at *; omega))).trans ?_; first | (with_reducible rfl) | (simp only [*, ix_0, ix_1, ix_2, ix_3, ix_4]; done) | (simp [*, ix_0, ix_1, ix_2, ix_3, ix_4]; done) | rfl | (simp_all [ix_0, ix_1, ix_2, ix_3, ix_4]; done)) eq65.rf)
            ·
              refine xg_iload_n (pc := 51) dX7_as_51 rfl ?_
              refine xg_iconst (v := 2) (pc := 52) dX7_as_52 (by decide) ?_
              refine xg_icmp_ne (pc := 53) (tgt := 65) dX7_as_53 (by decide) (fun c_53 => ?_) (fun c_53 => ?_)
              ·
                refine xg_iconst (v := 0) (pc := 65) dX7_as_65 (by decide) ?_
                refine xg_istore (pc := 66) (ls' := [some (.ref 62), some (.int (nI tn)), some (.int k), some (.int (mf (5 + 5 * tn))), some (.int 0)]) dX7_as_66 (by decide) rfl ?_
                refine xg_iload (pc := 68) dX7_as_68 rfl ?_
                refine xg_if_eq (pc := 70) (tgt := 82) dX7_as_70 (by decide) (fun c_70 => ?_) (fun c_70 => absurd c_70 (by decide))
                refine xg_aload_n (pc := 82) dX7_as_82 rfl ?_
                refine xg_ldc (v := -1000000003) (pc := 83) dX7_as_83 ccX7_109 ?_
                refine xg_cvI (pc := 85) (h1 := hp lk o mf wf (q.1, q.2.1, upd q.2.2.1 2 (q.2.2.1 2 + 1), q.2.2.2.1, q.2.2.2.2.1, q.2.2.2.2.2.1, q.2.2.2.2.2.2.1, q.2.2.2.2.2.2.2.1, q.2.2.2.2.2.2.2.2.1, q.2.2.2.2.2.2.2.2.2.1, q.2.2.2.2.2.2.2.2.2.2.1, q.2.2.2.2.2.2.2.2.2.2.2.1, q.2.2.2.2.2.2.2.2.2.2.2.2.1, q.2.2.2.2.2.2.2.2.2.2.2.2.2.1, q.2.2.2.2.2.2.2.2.2.2.2.2.2.2)) (x := -1000000003) (M' := mX7_finds) dX7_as_85 lkX7_44 mcX7_finds hp_62 rfl (ev_X7_finds (j := 2) (by decide) (by decide)) rfl rfl (Nat.le_of_ble_eq_true rfl) ?_
                exact xg_iret (pc := 88) dX7_as_88 rfl (rqR (j := (some 2)) (g := mf) (by unfold sp_as; refine (if_pos (by first | assumption | exact ⟨by assumption, by assumption⟩ | exact (fun q => c_5 q.1) | exact (fun q => c_15 q.2) | (rw [etn]; simp only [kof, Int32.lt_iff_toInt_lt, Int32.le_iff_toInt_le, Int32.not_lt, Int32.not_le, ← Int32.toInt_inj, Int64.lt_iff_toInt_lt, Int64.le_iff_toInt_le, Int64.not_lt, Int64.not_le, Classical.not_not, Int32.reduceToInt, Int64.reduceToInt] at *; omega))).trans ?_; refine (if_neg (by first | assumption | exact ⟨by assumption, by assumption⟩ | exact (fun q => c_5 q.1) | exact (fun q => c_15 q.2) | (rw [etn]; simp only [kof, Int32.lt_iff_toInt_lt, Int32.le_iff_toInt_le, Int32.not_lt, Int32.not_le, ← Int32.toInt_inj, Int64.lt_iff_toInt_lt, Int64.le_iff_toInt_le, Int64.not_lt, Int64.not_le, Classical.not_not, Int32.reduceToInt, Int64.reduceToInt] at *; omega))).trans ?_; first | (with_reducible rfl) | (simp only [*, ix_0, ix_1, ix_2, ix_3, ix_4]; done) | (simp [*, ix_0, ix_1, ix_2, ix_3, ix_4]; done) | rfl | (simp_all [ix_0, ix_1, ix_2, ix_3, ix_4]; done)) eq65.rf)
              ·
                refine xg_iload_n (pc := 56) dX7_as_56 rfl ?_
                refine xg_iconst (v := 5) (pc := 57) dX7_as_57 (by decide) ?_
                refine xg_icmp_ne (pc := 58) (tgt := 65) dX7_as_58 (by decide) (fun c_58 => ?_) (fun c_58 => ?_)
                ·
                  refine xg_iconst (v := 0) (pc := 65) dX7_as_65 (by decide) ?_
                  refine xg_istore (pc := 66) (ls' := [some (.ref 62), some (.int (nI tn)), some (.int k), some (.int (mf (5 + 5 * tn))), some (.int 0)]) dX7_as_66 (by decide) rfl ?_
                  refine xg_iload (pc := 68) dX7_as_68 rfl ?_
                  refine xg_if_eq (pc := 70) (tgt := 82) dX7_as_70 (by decide) (fun c_70 => ?_) (fun c_70 => absurd c_70 (by decide))
                  refine xg_aload_n (pc := 82) dX7_as_82 rfl ?_
                  refine xg_ldc (v := -1000000003) (pc := 83) dX7_as_83 ccX7_109 ?_
                  refine xg_cvI (pc := 85) (h1 := hp lk o mf wf (q.1, q.2.1, upd q.2.2.1 2 (q.2.2.1 2 + 1), q.2.2.2.1, q.2.2.2.2.1, q.2.2.2.2.2.1, q.2.2.2.2.2.2.1, q.2.2.2.2.2.2.2.1, q.2.2.2.2.2.2.2.2.1, q.2.2.2.2.2.2.2.2.2.1, q.2.2.2.2.2.2.2.2.2.2.1, q.2.2.2.2.2.2.2.2.2.2.2.1, q.2.2.2.2.2.2.2.2.2.2.2.2.1, q.2.2.2.2.2.2.2.2.2.2.2.2.2.1, q.2.2.2.2.2.2.2.2.2.2.2.2.2.2)) (x := -1000000003) (M' := mX7_finds) dX7_as_85 lkX7_44 mcX7_finds hp_62 rfl (ev_X7_finds (j := 2) (by decide) (by decide)) rfl rfl (Nat.le_of_ble_eq_true rfl) ?_
                  exact xg_iret (pc := 88) dX7_as_88 rfl (rqR (j := (some 2)) (g := mf) (by unfold sp_as; refine (if_pos (by first | assumption | exact ⟨by assumption, by assumption⟩ | exact (fun q => c_5 q.1) | exact (fun q => c_15 q.2) | (rw [etn]; simp only [kof, Int32.lt_iff_toInt_lt, Int32.le_iff_toInt_le, Int32.not_lt, Int32.not_le, ← Int32.toInt_inj, Int64.lt_iff_toInt_lt, Int64.le_iff_toInt_le, Int64.not_lt, Int64.not_le, Classical.not_not, Int32.reduceToInt, Int64.reduceToInt] at *; omega))).trans ?_; refine (if_neg (by first | assumption | exact ⟨by assumption, by assumption⟩ | exact (fun q => c_5 q.1) | exact (fun q => c_15 q.2) | (rw [etn]; simp only [kof, Int32.lt_iff_toInt_lt, Int32.le_iff_toInt_le, Int32.not_lt, Int32.not_le, ← Int32.toInt_inj, Int64.lt_iff_toInt_lt, Int64.le_iff_toInt_le, Int64.not_lt, Int64.not_le, Classical.not_not, Int32.reduceToInt, Int64.reduceToInt] at *; omega))).trans ?_; first | (with_reducible rfl) | (simp only [*, ix_0, ix_1, ix_2, ix_3, ix_4]; done) | (simp [*, ix_0, ix_1, ix_2, ix_3, ix_4]; done) | rfl | (simp_all [ix_0, ix_1, ix_2, ix_3, ix_4]; done)) eq65.rf)
                ·
                  refine xg_iconst (v := 1) (pc := 61) dX7_as_61 (by decide) ?_
                  refine xg_goto (pc := 62) (tgt := 66) dX7_as_62 (by decide) ?_
                  refine xg_istore (pc := 66) (ls' := [some (.ref 62), some (.int (nI tn)), some (.int k), some (.int (mf (5 + 5 * tn))), some (.int 1)]) dX7_as_66 (by decide) rfl ?_
                  refine xg_iload (pc := 68) dX7_as_68 rfl ?_
                  refine xg_if_eq (pc := 70) (tgt := 82) dX7_as_70 (by decide) (fun c_70 => absurd c_70 (by decide)) (fun c_70 => ?_)
                  refine xg_aload_n (pc := 73) dX7_as_73 rfl ?_
                  refine xg_iload_n (pc := 74) dX7_as_74 rfl ?_
                  refine xg_iconst (v := 3) (pc := 75) dX7_as_75 (by decide) ?_
                  refine xg_cvI (pc := 76) (h1 := hp lk o mf wf q) (x := mf (5 + 5 * tn + 3)) (M' := mX7_lit) dX7_as_76 lkX7_52 mcX7_lit hp_62 rfl (ev_X7_lit (t := tn) (w := 3) (by omega)) rfl rfl (Nat.le_of_ble_eq_true rfl) ?_
                  refine xg_goto (pc := 79) (tgt := 88) dX7_as_79 (by decide) ?_
                  exact xg_iret (pc := 88) dX7_as_88 rfl (rqR (j := none) (g := mf) (by unfold sp_as; refine (if_pos (by first | assumption | exact ⟨by assumption, by assumption⟩ | exact (fun q => c_5 q.1) | exact (fun q => c_15 q.2) | (rw [etn]; simp only [kof, Int32.lt_iff_toInt_lt, Int32.le_iff_toInt_le, Int32.not_lt, Int32.not_le, ← Int32.toInt_inj, Int64.lt_iff_toInt_lt, Int64.le_iff_toInt_le, Int64.not_lt, Int64.not_le, Classical.not_not, Int32.reduceToInt, Int64.reduceToInt] at *; omega))).trans ?_; refine (if_pos (by first | assumption | exact ⟨by assumption, by assumption⟩ | exact (fun q => c_5 q.1) | exact (fun q => c_15 q.2) | (rw [etn]; simp only [kof, Int32.lt_iff_toInt_lt, Int32.le_iff_toInt_le, Int32.not_lt, Int32.not_le, ← Int32.toInt_inj, Int64.lt_iff_toInt_lt, Int64.le_iff_toInt_le, Int64.not_lt, Int64.not_le, Classical.not_not, Int32.reduceToInt, Int64.reduceToInt] at *; omega))).trans ?_; first | (with_reducible rfl) | (simp only [*, ix_0, ix_1, ix_2, ix_3, ix_4]; done) | (simp [*, ix_0, ix_1, ix_2, ix_3, ix_4]; done) | rfl | (simp_all [ix_0, ix_1, ix_2, ix_3, ix_4]; done)) eq65.rf)
    ·
      refine xg_aload_n (pc := 18) dX7_as_18 rfl ?_
      refine xg_ldc (v := -1000000001) (pc := 19) dX7_as_19 ccX7_42 ?_
      refine xg_cvI (pc := 21) (h1 := hp lk o mf wf (q.1, q.2.1, upd q.2.2.1 0 (q.2.2.1 0 + 1), q.2.2.2.1, q.2.2.2.2.1, q.2.2.2.2.2.1, q.2.2.2.2.2.2.1, q.2.2.2.2.2.2.2.1, q.2.2.2.2.2.2.2.2.1, q.2.2.2.2.2.2.2.2.2.1, q.2.2.2.2.2.2.2.2.2.2.1, q.2.2.2.2.2.2.2.2.2.2.2.1, q.2.2.2.2.2.2.2.2.2.2.2.2.1, q.2.2.2.2.2.2.2.2.2.2.2.2.2.1, q.2.2.2.2.2.2.2.2.2.2.2.2.2.2)) (x := -1000000001) (M' := mX7_finds) dX7_as_21 lkX7_44 mcX7_finds hp_62 rfl (ev_X7_finds (j := 0) (by decide) (by decide)) rfl rfl (Nat.le_of_ble_eq_true rfl) ?_
      exact xg_iret (pc := 24) dX7_as_24 rfl (rqR (j := (some 0)) (g := mf) (by unfold sp_as; refine (if_neg (by first | assumption | exact ⟨by assumption, by assumption⟩ | exact (fun q => c_5 q.1) | exact (fun q => c_15 q.2) | (rw [etn]; simp only [kof, Int32.lt_iff_toInt_lt, Int32.le_iff_toInt_le, Int32.not_lt, Int32.not_le, ← Int32.toInt_inj, Int64.lt_iff_toInt_lt, Int64.le_iff_toInt_le, Int64.not_lt, Int64.not_le, Classical.not_not, Int32.reduceToInt, Int64.reduceToInt] at *; omega))).trans ?_; first | (with_reducible rfl) | (simp only [*, ix_0, ix_1, ix_2, ix_3, ix_4]; done) | (simp [*, ix_0, ix_1, ix_2, ix_3, ix_4]; done) | rfl | (simp_all [ix_0, ix_1, ix_2, ix_3, ix_4]; done)) eq65.rf)
set_option maxRecDepth 100000 in
set_option maxHeartbeats 4000000 in
theorem ev_X7_boat {c : Int32} (ok : okN mf) : xEv X false (d + 2) 0 0 mX7_boat [.ref 62, .int c] (hp lk o mf wf q) (RQ lk o q (sp_boat mf c)) := by
  have h5 := ok.2.2.2
  refine xEv.of (ls := [some (.ref 62), some (.int c)]) mcX7_boat.1.2.2.2.2 (Nat.le_of_ble_eq_true rfl) rfl ?_
  refine xg_iload_n (pc := 0) dX7_boat_0 rfl ?_
  refine xg_csI (pc := 1) (h1 := hp lk o mf wf q) (x := if 0 ≤ c ∧ c ≤ 47 then 1 else 0) (M' := mX7_isCell) dX7_boat_1 lkX7_83 mcX7_isCell (ev_X7_isCell) rfl rfl (Nat.le_of_ble_eq_true rfl) ?_
  refine xg_bnz (pc := 4) (tgt := 14) dX7_boat_4 (by decide) (fun c_4 => ?_) (fun c_4 => ?_)
  ·
    refine xg_aload_n (pc := 14) dX7_boat_14 rfl ?_
    refine xg_get (pc := 15) dX7_boat_15 flX7_9 hp_62 rfl ?_
    refine xg_iconst (v := 4) (pc := 18) dX7_boat_18 (by decide) ?_
    refine xg_iald (pc := 19) 4 dX7_boat_19 hp_63 rfl (by omega) (by decide) ?_
    refine xg_iconst (v := 5) (pc := 20) dX7_boat_20 (by decide) ?_
    refine xg_icmp_ne (pc := 21) (tgt := 33) dX7_boat_21 (by decide) (fun c_21 => ?_) (fun c_21 => ?_)
    ·
      have hr5 : nB mf < 5 := ne_of5 ok c_21
      have hf5 := lt5_of ok hr5
      refine xg_aload_n (pc := 33) dX7_boat_33 rfl ?_
      refine xg_iload_n (pc := 34) dX7_boat_34 rfl ?_
      refine xg_bipush (v := 10) (pc := 35) dX7_boat_35 (by decide) ?_
      refine xg_cvI (pc := 37) (h1 := hp lk o (aB mf c 10) wf q) (x := mf 4) (M' := mX7_comesBoat) dX7_boat_37 lkX7_114 mcX7_comesBoat hp_62 rfl (ev_X7_comesBoat ok (by omega)) rfl rfl (Nat.le_of_ble_eq_true rfl) ?_
      exact xg_iret (pc := 40) dX7_boat_40 rfl (rqR (j := none) (g := aB mf c 10) (by unfold sp_boat; refine (if_pos (by first | assumption | (simp only [Int32.lt_iff_toInt_lt, Int32.le_iff_toInt_le, Int32.not_lt, Int32.not_le, ← Int32.toInt_inj, Int64.lt_iff_toInt_lt, Int64.le_iff_toInt_le, Int64.not_lt, Int64.not_le, Classical.not_not, Int32.reduceToInt, Int64.reduceToInt] at *; omega) | (simp_all; done))).trans ?_; refine (if_neg (by first | assumption | (simp only [Int32.lt_iff_toInt_lt, Int32.le_iff_toInt_le, Int32.not_lt, Int32.not_le, ← Int32.toInt_inj, Int64.lt_iff_toInt_lt, Int64.le_iff_toInt_le, Int64.not_lt, Int64.not_le, Classical.not_not, Int32.reduceToInt, Int64.reduceToInt] at *; omega) | (simp_all; done))).trans ?_; first | (with_reducible rfl) | (simp only [*, ix_0, ix_1, ix_2, ix_3, ix_4]; done) | (simp [*, ix_0, ix_1, ix_2, ix_3, ix_4]; done) | rfl | (simp_all [ix_0, ix_1, ix_2, ix_3, ix_4]; done)) eq65.rf)
    ·
      refine xg_aload_n (pc := 24) dX7_boat_24 rfl ?_
      refine xg_ldc (v := -1000000002) (pc := 25) dX7_boat_25 ccX7_101 ?_
      refine xg_cvI (pc := 27) (h1 := hp lk o mf wf (q.1, q.2.1, upd q.2.2.1 1 (q.2.2.1 1 + 1), q.2.2.2.1, q.2.2.2.2.1, q.2.2.2.2.2.1, q.2.2.2.2.2.2.1, q.2.2.2.2.2.2.2.1, q.2.2.2.2.2.2.2.2.1, q.2.2.2.2.2.2.2.2.2.1, q.2.2.2.2.2.2.2.2.2.2.1, q.2.2.2.2.2.2.2.2.2.2.2.1, q.2.2.2.2.2.2.2.2.2.2.2.2.1, q.2.2.2.2.2.2.2.2.2.2.2.2.2.1, q.2.2.2.2.2.2.2.2.2.2.2.2.2.2)) (x := -1000000002) (M' := mX7_finds) dX7_boat_27 lkX7_44 mcX7_finds hp_62 rfl (ev_X7_finds (j := 1) (by decide) (by decide)) rfl rfl (Nat.le_of_ble_eq_true rfl) ?_
      refine xg_goto (pc := 30) (tgt := 40) dX7_boat_30 (by decide) ?_
      exact xg_iret (pc := 40) dX7_boat_40 rfl (rqR (j := (some 1)) (g := mf) (by unfold sp_boat; refine (if_pos (by first | assumption | (simp only [Int32.lt_iff_toInt_lt, Int32.le_iff_toInt_le, Int32.not_lt, Int32.not_le, ← Int32.toInt_inj, Int64.lt_iff_toInt_lt, Int64.le_iff_toInt_le, Int64.not_lt, Int64.not_le, Classical.not_not, Int32.reduceToInt, Int64.reduceToInt] at *; omega) | (simp_all; done))).trans ?_; refine (if_pos (by first | assumption | (simp only [Int32.lt_iff_toInt_lt, Int32.le_iff_toInt_le, Int32.not_lt, Int32.not_le, ← Int32.toInt_inj, Int64.lt_iff_toInt_lt, Int64.le_iff_toInt_le, Int64.not_lt, Int64.not_le, Classical.not_not, Int32.reduceToInt, Int64.reduceToInt] at *; omega) | (simp_all; done))).trans ?_; first | (with_reducible rfl) | (simp only [*, ix_0, ix_1, ix_2, ix_3, ix_4]; done) | (simp [*, ix_0, ix_1, ix_2, ix_3, ix_4]; done) | rfl | (simp_all [ix_0, ix_1, ix_2, ix_3, ix_4]; done)) eq65.rf)
  ·
    refine xg_aload_n (pc := 7) dX7_boat_7 rfl ?_
    refine xg_ldc (v := -1000000001) (pc := 8) dX7_boat_8 ccX7_42 ?_
    refine xg_cvI (pc := 10) (h1 := hp lk o mf wf (q.1, q.2.1, upd q.2.2.1 0 (q.2.2.1 0 + 1), q.2.2.2.1, q.2.2.2.2.1, q.2.2.2.2.2.1, q.2.2.2.2.2.2.1, q.2.2.2.2.2.2.2.1, q.2.2.2.2.2.2.2.2.1, q.2.2.2.2.2.2.2.2.2.1, q.2.2.2.2.2.2.2.2.2.2.1, q.2.2.2.2.2.2.2.2.2.2.2.1, q.2.2.2.2.2.2.2.2.2.2.2.2.1, q.2.2.2.2.2.2.2.2.2.2.2.2.2.1, q.2.2.2.2.2.2.2.2.2.2.2.2.2.2)) (x := -1000000001) (M' := mX7_finds) dX7_boat_10 lkX7_44 mcX7_finds hp_62 rfl (ev_X7_finds (j := 0) (by decide) (by decide)) rfl rfl (Nat.le_of_ble_eq_true rfl) ?_
    exact xg_iret (pc := 13) dX7_boat_13 rfl (rqR (j := (some 0)) (g := mf) (by unfold sp_boat; refine (if_neg (by first | assumption | (simp only [Int32.lt_iff_toInt_lt, Int32.le_iff_toInt_le, Int32.not_lt, Int32.not_le, ← Int32.toInt_inj, Int64.lt_iff_toInt_lt, Int64.le_iff_toInt_le, Int64.not_lt, Int64.not_le, Classical.not_not, Int32.reduceToInt, Int64.reduceToInt] at *; omega) | (simp_all; done))).trans ?_; first | (with_reducible rfl) | (simp only [*, ix_0, ix_1, ix_2, ix_3, ix_4]; done) | (simp [*, ix_0, ix_1, ix_2, ix_3, ix_4]; done) | rfl | (simp_all [ix_0, ix_1, ix_2, ix_3, ix_4]; done)) eq65.rf)
set_option maxRecDepth 100000 in
set_option maxHeartbeats 4000000 in
theorem ev_X7_told {b w : Int32} (okm : okM mf) : xEv X false (d + 5) 0 0 mX7_told [.ref 62, .int b, .int w] (hp lk o mf wf q) (RQ lk o q (sp_told mf (tkR mf (ix b)) b w)) := by
  have ok := okm.1
  have h5 := ok.2.2.2
  refine xEv.of (ls := [some (.ref 62), some (.int b), some (.int w)]) mcX7_told.1.2.2.2.2 (Nat.le_of_ble_eq_true rfl) rfl ?_
  refine xg_aload_n (pc := 0) dX7_told_0 rfl ?_
  refine xg_iload_n (pc := 1) dX7_told_1 rfl ?_
  refine xg_cvI (pc := 2) (h1 := hp lk o mf wf q) (x := if 0 ≤ b ∧ b < mf 4 then 1 else 0) (M' := mX7_isBoat) dX7_told_2 lkX7_117 mcX7_isBoat hp_62 rfl (ev_isB ok) rfl rfl (Nat.le_of_ble_eq_true rfl) ?_
  refine xg_bz (pc := 5) (tgt := 18) dX7_told_5 (by decide) (fun c_5 => ?_) (fun c_5 => ?_)
  ·
    refine xg_aload_n (pc := 18) dX7_told_18 rfl ?_
    refine xg_ldc (v := -1000000001) (pc := 19) dX7_told_19 ccX7_42 ?_
    refine xg_cvI (pc := 21) (h1 := hp lk o mf wf (q.1, q.2.1, upd q.2.2.1 0 (q.2.2.1 0 + 1), q.2.2.2.1, q.2.2.2.2.1, q.2.2.2.2.2.1, q.2.2.2.2.2.2.1, q.2.2.2.2.2.2.2.1, q.2.2.2.2.2.2.2.2.1, q.2.2.2.2.2.2.2.2.2.1, q.2.2.2.2.2.2.2.2.2.2.1, q.2.2.2.2.2.2.2.2.2.2.2.1, q.2.2.2.2.2.2.2.2.2.2.2.2.1, q.2.2.2.2.2.2.2.2.2.2.2.2.2.1, q.2.2.2.2.2.2.2.2.2.2.2.2.2.2)) (x := -1000000001) (M' := mX7_finds) dX7_told_21 lkX7_44 mcX7_finds hp_62 rfl (ev_X7_finds (j := 0) (by decide) (by decide)) rfl rfl (Nat.le_of_ble_eq_true rfl) ?_
    exact xg_iret (pc := 24) dX7_told_24 rfl (rqR (j := (some 0)) (g := mf) (by unfold sp_told; refine (if_neg (by first | assumption | (simp only [Int32.lt_iff_toInt_lt, Int32.le_iff_toInt_le, Int32.not_lt, Int32.not_le, ← Int32.toInt_inj, Int64.lt_iff_toInt_lt, Int64.le_iff_toInt_le, Int64.not_lt, Int64.not_le, Classical.not_not, Int32.reduceToInt, Int64.reduceToInt] at *; omega) | (simp_all; done))).trans ?_; first | (with_reducible rfl) | (simp only [*, ix_0, ix_1, ix_2, ix_3, ix_4, tkR]; done) | (simp [*, ix_0, ix_1, ix_2, ix_3, ix_4, tkR]; done) | rfl | (simp_all [ix_0, ix_1, ix_2, ix_3, ix_4]; done)) eq65.rf)
  ·
    refine xg_iload_n (pc := 8) dX7_told_8 rfl ?_
    refine xg_i2l (pc := 9) dX7_told_9 ?_
    refine xg_iconst (v := 0) (pc := 10) dX7_told_10 (by decide) ?_
    refine xg_iconst (v := 4) (pc := 11) dX7_told_11 (by decide) ?_
    refine xg_csI (pc := 12) (h1 := hp lk o mf wf q) (x := if 0 ≤ w ∧ w ≤ 4 then 1 else 0) (M' := mX7_in) dX7_told_12 lkX7_48 mcX7_in (ev_in) rfl rfl (Nat.le_of_ble_eq_true rfl) ?_
    refine xg_bnz (pc := 15) (tgt := 25) dX7_told_15 (by decide) (fun c_15 => ?_) (fun c_15 => ?_)
    ·
      refine xg_iload_n (pc := 25) dX7_told_25 rfl ?_
      refine xg_iconst (v := 4) (pc := 26) dX7_told_26 (by decide) ?_
      refine xg_icmp_ge (pc := 27) (tgt := 39) dX7_told_27 (by decide) (fun c_27 => ?_) (fun c_27 => ?_)
      ·
        obtain ⟨bn, hbn, rfl⟩ := idxB ok c_5
        have ebn : ix (nI bn) = bn := nI_clamp (by omega)
        have ew4 := w4 c_15 c_27
        refine xg_aload_n (pc := 39) dX7_told_39 rfl ?_
        refine xg_iload_n (pc := 40) dX7_told_40 rfl ?_
        refine xg_cvI (pc := 41) (h1 := hp lk o mf wf q) (x := tkR mf bn) (M' := mX7_takesOf) dX7_told_41 lkX7_120 mcX7_takesOf hp_62 rfl (ev_X7_takesOf (b := bn) okm hbn) rfl rfl (Nat.le_of_ble_eq_true rfl) ?_
        exact xg_iret (pc := 44) dX7_told_44 rfl (rqR (j := none) (g := mf) (by unfold sp_told; refine (if_pos (by first | assumption | (simp only [Int32.lt_iff_toInt_lt, Int32.le_iff_toInt_le, Int32.not_lt, Int32.not_le, ← Int32.toInt_inj, Int64.lt_iff_toInt_lt, Int64.le_iff_toInt_le, Int64.not_lt, Int64.not_le, Classical.not_not, Int32.reduceToInt, Int64.reduceToInt] at *; omega) | (simp_all; done))).trans ?_; refine (if_neg (by first | assumption | (simp only [Int32.lt_iff_toInt_lt, Int32.le_iff_toInt_le, Int32.not_lt, Int32.not_le, ← Int32.toInt_inj, Int64.lt_iff_toInt_lt, Int64.le_iff_toInt_le, Int64.not_lt, Int64.not_le, Classical.not_not, Int32.reduceToInt, Int64.reduceToInt] at *; omega) | (simp_all; done))).trans ?_; refine (if_pos (by first | assumption | (simp only [Int32.lt_iff_toInt_lt, Int32.le_iff_toInt_le, Int32.not_lt, Int32.not_le, ← Int32.toInt_inj, Int64.lt_iff_toInt_lt, Int64.le_iff_toInt_le, Int64.not_lt, Int64.not_le, Classical.not_not, Int32.reduceToInt, Int64.reduceToInt] at *; omega) | (simp_all; done))).trans ?_; first | (with_reducible rfl) | (simp only [*, ix_0, ix_1, ix_2, ix_3, ix_4, tkR]; done) | (simp [*, ix_0, ix_1, ix_2, ix_3, ix_4, tkR]; done) | rfl | (simp_all [ix_0, ix_1, ix_2, ix_3, ix_4]; done)) eq65.rf)
      ·
        obtain ⟨bn, hbn, rfl⟩ := idxB ok c_5
        have ebn : ix (nI bn) = bn := nI_clamp (by omega)
        refine xg_aload_n (pc := 30) dX7_told_30 rfl ?_
        rcases w03 c_15 c_27 with rfl | rfl | rfl | rfl
        ·
          refine xg_iload_n (pc := 31) dX7_told_31 rfl ?_
          refine xg_iload_n (pc := 32) dX7_told_32 rfl ?_
          refine xg_cvI (pc := 33) (h1 := hp lk o mf wf q) (x := mf (45 + 4 * bn)) (M' := mX7_has) dX7_told_33 lkX7_77 mcX7_has hp_62 rfl (ev_X7_has (j := bn) (w := 0) (by omega)) rfl rfl (Nat.le_of_ble_eq_true rfl) ?_
          refine xg_goto (pc := 36) (tgt := 44) dX7_told_36 (by decide) ?_
          exact xg_iret (pc := 44) dX7_told_44 rfl (rqR (j := none) (g := mf) (by unfold sp_told; refine (if_pos (by first | assumption | (simp only [Int32.lt_iff_toInt_lt, Int32.le_iff_toInt_le, Int32.not_lt, Int32.not_le, ← Int32.toInt_inj, Int64.lt_iff_toInt_lt, Int64.le_iff_toInt_le, Int64.not_lt, Int64.not_le, Classical.not_not, Int32.reduceToInt, Int64.reduceToInt] at *; omega) | (simp_all; done))).trans ?_; refine (if_pos (by first | assumption | (simp only [Int32.lt_iff_toInt_lt, Int32.le_iff_toInt_le, Int32.not_lt, Int32.not_le, ← Int32.toInt_inj, Int64.lt_iff_toInt_lt, Int64.le_iff_toInt_le, Int64.not_lt, Int64.not_le, Classical.not_not, Int32.reduceToInt, Int64.reduceToInt] at *; omega) | (simp_all; done))).trans ?_; first | (with_reducible rfl) | (simp only [*, ix_0, ix_1, ix_2, ix_3, ix_4, tkR]; done) | (simp [*, ix_0, ix_1, ix_2, ix_3, ix_4, tkR]; done) | rfl | (simp_all [ix_0, ix_1, ix_2, ix_3, ix_4]; done)) eq65.rf)
        ·
          refine xg_iload_n (pc := 31) dX7_told_31 rfl ?_
          refine xg_iload_n (pc := 32) dX7_told_32 rfl ?_
          refine xg_cvI (pc := 33) (h1 := hp lk o mf wf q) (x := mf (45 + 4 * bn + 1)) (M' := mX7_has) dX7_told_33 lkX7_77 mcX7_has hp_62 rfl (ev_X7_has (j := bn) (w := 1) (by omega)) rfl rfl (Nat.le_of_ble_eq_true rfl) ?_
          refine xg_goto (pc := 36) (tgt := 44) dX7_told_36 (by decide) ?_
          exact xg_iret (pc := 44) dX7_told_44 rfl (rqR (j := none) (g := mf) (by unfold sp_told; refine (if_pos (by first | assumption | (simp only [Int32.lt_iff_toInt_lt, Int32.le_iff_toInt_le, Int32.not_lt, Int32.not_le, ← Int32.toInt_inj, Int64.lt_iff_toInt_lt, Int64.le_iff_toInt_le, Int64.not_lt, Int64.not_le, Classical.not_not, Int32.reduceToInt, Int64.reduceToInt] at *; omega) | (simp_all; done))).trans ?_; refine (if_pos (by first | assumption | (simp only [Int32.lt_iff_toInt_lt, Int32.le_iff_toInt_le, Int32.not_lt, Int32.not_le, ← Int32.toInt_inj, Int64.lt_iff_toInt_lt, Int64.le_iff_toInt_le, Int64.not_lt, Int64.not_le, Classical.not_not, Int32.reduceToInt, Int64.reduceToInt] at *; omega) | (simp_all; done))).trans ?_; first | (with_reducible rfl) | (simp only [*, ix_0, ix_1, ix_2, ix_3, ix_4, tkR]; done) | (simp [*, ix_0, ix_1, ix_2, ix_3, ix_4, tkR]; done) | rfl | (simp_all [ix_0, ix_1, ix_2, ix_3, ix_4]; done)) eq65.rf)
        ·
          refine xg_iload_n (pc := 31) dX7_told_31 rfl ?_
          refine xg_iload_n (pc := 32) dX7_told_32 rfl ?_
          refine xg_cvI (pc := 33) (h1 := hp lk o mf wf q) (x := mf (45 + 4 * bn + 2)) (M' := mX7_has) dX7_told_33 lkX7_77 mcX7_has hp_62 rfl (ev_X7_has (j := bn) (w := 2) (by omega)) rfl rfl (Nat.le_of_ble_eq_true rfl) ?_
          refine xg_goto (pc := 36) (tgt := 44) dX7_told_36 (by decide) ?_
          exact xg_iret (pc := 44) dX7_told_44 rfl (rqR (j := none) (g := mf) (by unfold sp_told; refine (if_pos (by first | assumption | (simp only [Int32.lt_iff_toInt_lt, Int32.le_iff_toInt_le, Int32.not_lt, Int32.not_le, ← Int32.toInt_inj, Int64.lt_iff_toInt_lt, Int64.le_iff_toInt_le, Int64.not_lt, Int64.not_le, Classical.not_not, Int32.reduceToInt, Int64.reduceToInt] at *; omega) | (simp_all; done))).trans ?_; refine (if_pos (by first | assumption | (simp only [Int32.lt_iff_toInt_lt, Int32.le_iff_toInt_le, Int32.not_lt, Int32.not_le, ← Int32.toInt_inj, Int64.lt_iff_toInt_lt, Int64.le_iff_toInt_le, Int64.not_lt, Int64.not_le, Classical.not_not, Int32.reduceToInt, Int64.reduceToInt] at *; omega) | (simp_all; done))).trans ?_; first | (with_reducible rfl) | (simp only [*, ix_0, ix_1, ix_2, ix_3, ix_4, tkR]; done) | (simp [*, ix_0, ix_1, ix_2, ix_3, ix_4, tkR]; done) | rfl | (simp_all [ix_0, ix_1, ix_2, ix_3, ix_4]; done)) eq65.rf)
        ·
          refine xg_iload_n (pc := 31) dX7_told_31 rfl ?_
          refine xg_iload_n (pc := 32) dX7_told_32 rfl ?_
          refine xg_cvI (pc := 33) (h1 := hp lk o mf wf q) (x := mf (45 + 4 * bn + 3)) (M' := mX7_has) dX7_told_33 lkX7_77 mcX7_has hp_62 rfl (ev_X7_has (j := bn) (w := 3) (by omega)) rfl rfl (Nat.le_of_ble_eq_true rfl) ?_
          refine xg_goto (pc := 36) (tgt := 44) dX7_told_36 (by decide) ?_
          exact xg_iret (pc := 44) dX7_told_44 rfl (rqR (j := none) (g := mf) (by unfold sp_told; refine (if_pos (by first | assumption | (simp only [Int32.lt_iff_toInt_lt, Int32.le_iff_toInt_le, Int32.not_lt, Int32.not_le, ← Int32.toInt_inj, Int64.lt_iff_toInt_lt, Int64.le_iff_toInt_le, Int64.not_lt, Int64.not_le, Classical.not_not, Int32.reduceToInt, Int64.reduceToInt] at *; omega) | (simp_all; done))).trans ?_; refine (if_pos (by first | assumption | (simp only [Int32.lt_iff_toInt_lt, Int32.le_iff_toInt_le, Int32.not_lt, Int32.not_le, ← Int32.toInt_inj, Int64.lt_iff_toInt_lt, Int64.le_iff_toInt_le, Int64.not_lt, Int64.not_le, Classical.not_not, Int32.reduceToInt, Int64.reduceToInt] at *; omega) | (simp_all; done))).trans ?_; first | (with_reducible rfl) | (simp only [*, ix_0, ix_1, ix_2, ix_3, ix_4, tkR]; done) | (simp [*, ix_0, ix_1, ix_2, ix_3, ix_4, tkR]; done) | rfl | (simp_all [ix_0, ix_1, ix_2, ix_3, ix_4]; done)) eq65.rf)
    ·
      refine xg_aload_n (pc := 18) dX7_told_18 rfl ?_
      refine xg_ldc (v := -1000000001) (pc := 19) dX7_told_19 ccX7_42 ?_
      refine xg_cvI (pc := 21) (h1 := hp lk o mf wf (q.1, q.2.1, upd q.2.2.1 0 (q.2.2.1 0 + 1), q.2.2.2.1, q.2.2.2.2.1, q.2.2.2.2.2.1, q.2.2.2.2.2.2.1, q.2.2.2.2.2.2.2.1, q.2.2.2.2.2.2.2.2.1, q.2.2.2.2.2.2.2.2.2.1, q.2.2.2.2.2.2.2.2.2.2.1, q.2.2.2.2.2.2.2.2.2.2.2.1, q.2.2.2.2.2.2.2.2.2.2.2.2.1, q.2.2.2.2.2.2.2.2.2.2.2.2.2.1, q.2.2.2.2.2.2.2.2.2.2.2.2.2.2)) (x := -1000000001) (M' := mX7_finds) dX7_told_21 lkX7_44 mcX7_finds hp_62 rfl (ev_X7_finds (j := 0) (by decide) (by decide)) rfl rfl (Nat.le_of_ble_eq_true rfl) ?_
      exact xg_iret (pc := 24) dX7_told_24 rfl (rqR (j := (some 0)) (g := mf) (by unfold sp_told; refine (if_pos (by first | assumption | (simp only [Int32.lt_iff_toInt_lt, Int32.le_iff_toInt_le, Int32.not_lt, Int32.not_le, ← Int32.toInt_inj, Int64.lt_iff_toInt_lt, Int64.le_iff_toInt_le, Int64.not_lt, Int64.not_le, Classical.not_not, Int32.reduceToInt, Int64.reduceToInt] at *; omega) | (simp_all; done))).trans ?_; refine (if_neg (by first | assumption | (simp only [Int32.lt_iff_toInt_lt, Int32.le_iff_toInt_le, Int32.not_lt, Int32.not_le, ← Int32.toInt_inj, Int64.lt_iff_toInt_lt, Int64.le_iff_toInt_le, Int64.not_lt, Int64.not_le, Classical.not_not, Int32.reduceToInt, Int64.reduceToInt] at *; omega) | (simp_all; done))).trans ?_; refine (if_neg (by first | assumption | (simp only [Int32.lt_iff_toInt_lt, Int32.le_iff_toInt_le, Int32.not_lt, Int32.not_le, ← Int32.toInt_inj, Int64.lt_iff_toInt_lt, Int64.le_iff_toInt_le, Int64.not_lt, Int64.not_le, Classical.not_not, Int32.reduceToInt, Int64.reduceToInt] at *; omega) | (simp_all; done))).trans ?_; first | (with_reducible rfl) | (simp only [*, ix_0, ix_1, ix_2, ix_3, ix_4, tkR]; done) | (simp [*, ix_0, ix_1, ix_2, ix_3, ix_4, tkR]; done) | rfl | (simp_all [ix_0, ix_1, ix_2, ix_3, ix_4]; done)) eq65.rf)
set_option maxRecDepth 100000 in
set_option maxHeartbeats 4000000 in
theorem ev_X7_fit {b w v : Int32} (ok : okN mf) : xEv X false (d + 2) 0 0 mX7_fit [.ref 62, .int b, .int w, .int v] (hp lk o mf wf q) (RQ lk o q (sp_fit mf b w v)) := by
  have h5 := ok.2.2.2
  refine xEv.of (ls := [some (.ref 62), some (.int b), some (.int w), some (.int v), none]) mcX7_fit.1.2.2.2.2 (Nat.le_of_ble_eq_true rfl) rfl ?_
  refine xg_aload_n (pc := 0) dX7_fit_0 rfl ?_
  refine xg_iload_n (pc := 1) dX7_fit_1 rfl ?_
  refine xg_cvI (pc := 2) (h1 := hp lk o mf wf q) (x := if 0 ≤ b ∧ b < mf 4 then 1 else 0) (M' := mX7_isBoat) dX7_fit_2 lkX7_117 mcX7_isBoat hp_62 rfl (ev_isB ok) rfl rfl (Nat.le_of_ble_eq_true rfl) ?_
  refine xg_bz (pc := 5) (tgt := 39) dX7_fit_5 (by decide) (fun c_5 => ?_) (fun c_5 => ?_)
  ·
    refine xg_iconst (v := 0) (pc := 39) dX7_fit_39 (by decide) ?_
    refine xg_istore (pc := 40) (ls' := [some (.ref 62), some (.int b), some (.int w), some (.int v), some (.int 0)]) dX7_fit_40 (by decide) rfl ?_
    refine xg_iload (pc := 42) dX7_fit_42 rfl ?_
    refine xg_if_eq (pc := 44) (tgt := 63) dX7_fit_44 (by decide) (fun c_44 => ?_) (fun c_44 => absurd c_44 (by decide))
    refine xg_aload_n (pc := 63) dX7_fit_63 rfl ?_
    refine xg_ldc (v := -1000000001) (pc := 64) dX7_fit_64 ccX7_42 ?_
    refine xg_cvI (pc := 66) (h1 := hp lk o mf wf (q.1, q.2.1, upd q.2.2.1 0 (q.2.2.1 0 + 1), q.2.2.2.1, q.2.2.2.2.1, q.2.2.2.2.2.1, q.2.2.2.2.2.2.1, q.2.2.2.2.2.2.2.1, q.2.2.2.2.2.2.2.2.1, q.2.2.2.2.2.2.2.2.2.1, q.2.2.2.2.2.2.2.2.2.2.1, q.2.2.2.2.2.2.2.2.2.2.2.1, q.2.2.2.2.2.2.2.2.2.2.2.2.1, q.2.2.2.2.2.2.2.2.2.2.2.2.2.1, q.2.2.2.2.2.2.2.2.2.2.2.2.2.2)) (x := -1000000001) (M' := mX7_finds) dX7_fit_66 lkX7_44 mcX7_finds hp_62 rfl (ev_X7_finds (j := 0) (by decide) (by decide)) rfl rfl (Nat.le_of_ble_eq_true rfl) ?_
    exact xg_iret (pc := 69) dX7_fit_69 rfl (rqR (j := (some 0)) (g := mf) (by unfold sp_fit; refine (if_neg (by first | assumption | (simp only [Int32.lt_iff_toInt_lt, Int32.le_iff_toInt_le, Int32.not_lt, Int32.not_le, ← Int32.toInt_inj, Int64.lt_iff_toInt_lt, Int64.le_iff_toInt_le, Int64.not_lt, Int64.not_le, Classical.not_not, Int32.reduceToInt, Int64.reduceToInt] at *; omega) | (simp_all; done))).trans ?_; first | (with_reducible rfl) | (simp only [*, ix_0, ix_1, ix_2, ix_3, ix_4]; done) | (simp [*, ix_0, ix_1, ix_2, ix_3, ix_4]; done) | rfl | (simp_all [ix_0, ix_1, ix_2, ix_3, ix_4]; done)) eq65.rf)
  ·
    refine xg_iload_n (pc := 8) dX7_fit_8 rfl ?_
    refine xg_if_ne (pc := 9) (tgt := 19) dX7_fit_9 (by decide) (fun c_9 => ?_) (fun c_9 => ?_)
    ·
      refine xg_iload_n (pc := 19) dX7_fit_19 rfl ?_
      refine xg_iconst (v := 1) (pc := 20) dX7_fit_20 (by decide) ?_
      refine xg_icmp_ne (pc := 21) (tgt := 39) dX7_fit_21 (by decide) (fun c_21 => ?_) (fun c_21 => ?_)
      ·
        refine xg_iconst (v := 0) (pc := 39) dX7_fit_39 (by decide) ?_
        refine xg_istore (pc := 40) (ls' := [some (.ref 62), some (.int b), some (.int w), some (.int v), some (.int 0)]) dX7_fit_40 (by decide) rfl ?_
        refine xg_iload (pc := 42) dX7_fit_42 rfl ?_
        refine xg_if_eq (pc := 44) (tgt := 63) dX7_fit_44 (by decide) (fun c_44 => ?_) (fun c_44 => absurd c_44 (by decide))
        refine xg_aload_n (pc := 63) dX7_fit_63 rfl ?_
        refine xg_ldc (v := -1000000001) (pc := 64) dX7_fit_64 ccX7_42 ?_
        refine xg_cvI (pc := 66) (h1 := hp lk o mf wf (q.1, q.2.1, upd q.2.2.1 0 (q.2.2.1 0 + 1), q.2.2.2.1, q.2.2.2.2.1, q.2.2.2.2.2.1, q.2.2.2.2.2.2.1, q.2.2.2.2.2.2.2.1, q.2.2.2.2.2.2.2.2.1, q.2.2.2.2.2.2.2.2.2.1, q.2.2.2.2.2.2.2.2.2.2.1, q.2.2.2.2.2.2.2.2.2.2.2.1, q.2.2.2.2.2.2.2.2.2.2.2.2.1, q.2.2.2.2.2.2.2.2.2.2.2.2.2.1, q.2.2.2.2.2.2.2.2.2.2.2.2.2.2)) (x := -1000000001) (M' := mX7_finds) dX7_fit_66 lkX7_44 mcX7_finds hp_62 rfl (ev_X7_finds (j := 0) (by decide) (by decide)) rfl rfl (Nat.le_of_ble_eq_true rfl) ?_
        exact xg_iret (pc := 69) dX7_fit_69 rfl (rqR (j := (some 0)) (g := mf) (by unfold sp_fit; refine (if_neg (by first | assumption | (simp only [Int32.lt_iff_toInt_lt, Int32.le_iff_toInt_le, Int32.not_lt, Int32.not_le, ← Int32.toInt_inj, Int64.lt_iff_toInt_lt, Int64.le_iff_toInt_le, Int64.not_lt, Int64.not_le, Classical.not_not, Int32.reduceToInt, Int64.reduceToInt] at *; omega) | (simp_all; done))).trans ?_; first | (with_reducible rfl) | (simp only [*, ix_0, ix_1, ix_2, ix_3, ix_4]; done) | (simp [*, ix_0, ix_1, ix_2, ix_3, ix_4]; done) | rfl | (simp_all [ix_0, ix_1, ix_2, ix_3, ix_4]; done)) eq65.rf)
      ·
        refine xg_iload_n (pc := 24) dX7_fit_24 rfl ?_
        refine xg_i2l (pc := 25) dX7_fit_25 ?_
        refine xg_iconst (v := 0) (pc := 26) dX7_fit_26 (by decide) ?_
        refine xg_bipush (v := 99) (pc := 27) dX7_fit_27 (by decide) ?_
        refine xg_csI (pc := 29) (h1 := hp lk o mf wf q) (x := if 0 ≤ v ∧ v ≤ 99 then 1 else 0) (M' := mX7_in) dX7_fit_29 lkX7_48 mcX7_in (ev_in) rfl rfl (Nat.le_of_ble_eq_true rfl) ?_
        refine xg_bz (pc := 32) (tgt := 39) dX7_fit_32 (by decide) (fun c_32 => ?_) (fun c_32 => ?_)
        ·
          refine xg_iconst (v := 0) (pc := 39) dX7_fit_39 (by decide) ?_
          refine xg_istore (pc := 40) (ls' := [some (.ref 62), some (.int b), some (.int w), some (.int v), some (.int 0)]) dX7_fit_40 (by decide) rfl ?_
          refine xg_iload (pc := 42) dX7_fit_42 rfl ?_
          refine xg_if_eq (pc := 44) (tgt := 63) dX7_fit_44 (by decide) (fun c_44 => ?_) (fun c_44 => absurd c_44 (by decide))
          refine xg_aload_n (pc := 63) dX7_fit_63 rfl ?_
          refine xg_ldc (v := -1000000001) (pc := 64) dX7_fit_64 ccX7_42 ?_
          refine xg_cvI (pc := 66) (h1 := hp lk o mf wf (q.1, q.2.1, upd q.2.2.1 0 (q.2.2.1 0 + 1), q.2.2.2.1, q.2.2.2.2.1, q.2.2.2.2.2.1, q.2.2.2.2.2.2.1, q.2.2.2.2.2.2.2.1, q.2.2.2.2.2.2.2.2.1, q.2.2.2.2.2.2.2.2.2.1, q.2.2.2.2.2.2.2.2.2.2.1, q.2.2.2.2.2.2.2.2.2.2.2.1, q.2.2.2.2.2.2.2.2.2.2.2.2.1, q.2.2.2.2.2.2.2.2.2.2.2.2.2.1, q.2.2.2.2.2.2.2.2.2.2.2.2.2.2)) (x := -1000000001) (M' := mX7_finds) dX7_fit_66 lkX7_44 mcX7_finds hp_62 rfl (ev_X7_finds (j := 0) (by decide) (by decide)) rfl rfl (Nat.le_of_ble_eq_true rfl) ?_
          exact xg_iret (pc := 69) dX7_fit_69 rfl (rqR (j := (some 0)) (g := mf) (by unfold sp_fit; refine (if_neg (by first | assumption | (simp only [Int32.lt_iff_toInt_lt, Int32.le_iff_toInt_le, Int32.not_lt, Int32.not_le, ← Int32.toInt_inj, Int64.lt_iff_toInt_lt, Int64.le_iff_toInt_le, Int64.not_lt, Int64.not_le, Classical.not_not, Int32.reduceToInt, Int64.reduceToInt] at *; omega) | (simp_all; done))).trans ?_; first | (with_reducible rfl) | (simp only [*, ix_0, ix_1, ix_2, ix_3, ix_4]; done) | (simp [*, ix_0, ix_1, ix_2, ix_3, ix_4]; done) | rfl | (simp_all [ix_0, ix_1, ix_2, ix_3, ix_4]; done)) eq65.rf)
        ·
          refine xg_iconst (v := 1) (pc := 35) dX7_fit_35 (by decide) ?_
          refine xg_goto (pc := 36) (tgt := 40) dX7_fit_36 (by decide) ?_
          refine xg_istore (pc := 40) (ls' := [some (.ref 62), some (.int b), some (.int w), some (.int v), some (.int 1)]) dX7_fit_40 (by decide) rfl ?_
          refine xg_iload (pc := 42) dX7_fit_42 rfl ?_
          refine xg_if_eq (pc := 44) (tgt := 63) dX7_fit_44 (by decide) (fun c_44 => absurd c_44 (by decide)) (fun c_44 => ?_)
          obtain ⟨bn, hbn, rfl⟩ := idxB ok c_5
          have ebn : ix (nI bn) = bn := nI_clamp (by omega)
          refine xg_aload_n (pc := 47) dX7_fit_47 rfl ?_
          rcases (show w = 1 from c_21) with rfl
          ·
            refine xg_bipush (v := 45) (pc := 48) dX7_fit_48 (by decide) ?_
            refine xg_iconst (v := 4) (pc := 50) dX7_fit_50 (by decide) ?_
            refine xg_iload_n (pc := 51) dX7_fit_51 rfl ?_
            refine xg_imul (pc := 52) dX7_fit_52 ?_
            refine xg_iadd (pc := 53) dX7_fit_53 ?_
            refine xg_iload_n (pc := 54) dX7_fit_54 rfl ?_
            refine xg_iadd (pc := 55) dX7_fit_55 ?_
            refine xg_iload_n (pc := 56) dX7_fit_56 rfl ?_
            refine xg_eq2 (show ((45 + (4 * (nI bn))) + 1 : Int32) = nI (45 + 4 * bn + 1) from by simp only [xlit, nI_add, pk_mul]) ?_
            refine xg_cvI (pc := 57) (h1 := hp lk o (upd mf (45 + 4 * bn + 1) v) wf q) (x := mf (45 + 4 * bn + 1)) (M' := mX7_becomes) dX7_fit_57 lkX7_80 mcX7_becomes hp_62 rfl (ev_X7_becomes (j := (45 + 4 * bn + 1)) (by omega)) rfl rfl (Nat.le_of_ble_eq_true rfl) ?_
            refine xg_goto (pc := 60) (tgt := 69) dX7_fit_60 (by decide) ?_
            exact xg_iret (pc := 69) dX7_fit_69 rfl (rqR (j := none) (g := upd mf (45 + 4 * bn + 1) v) (by unfold sp_fit; refine (if_pos (by first | assumption | (simp only [Int32.lt_iff_toInt_lt, Int32.le_iff_toInt_le, Int32.not_lt, Int32.not_le, ← Int32.toInt_inj, Int64.lt_iff_toInt_lt, Int64.le_iff_toInt_le, Int64.not_lt, Int64.not_le, Classical.not_not, Int32.reduceToInt, Int64.reduceToInt] at *; omega) | (simp_all; done))).trans ?_; first | (with_reducible rfl) | (simp only [*, ix_0, ix_1, ix_2, ix_3, ix_4]; done) | (simp [*, ix_0, ix_1, ix_2, ix_3, ix_4]; done) | rfl | (simp_all [ix_0, ix_1, ix_2, ix_3, ix_4]; done)) eq65.rf)
    ·
      refine xg_iload_n (pc := 12) dX7_fit_12 rfl ?_
      refine xg_csI (pc := 13) (h1 := hp lk o mf wf q) (x := if 0 ≤ v ∧ v ≤ 47 then 1 else 0) (M' := mX7_isCell) dX7_fit_13 lkX7_83 mcX7_isCell (ev_X7_isCell) rfl rfl (Nat.le_of_ble_eq_true rfl) ?_
      refine xg_bnz (pc := 16) (tgt := 35) dX7_fit_16 (by decide) (fun c_16 => ?_) (fun c_16 => ?_)
      ·
        refine xg_iconst (v := 1) (pc := 35) dX7_fit_35 (by decide) ?_
        refine xg_goto (pc := 36) (tgt := 40) dX7_fit_36 (by decide) ?_
        refine xg_istore (pc := 40) (ls' := [some (.ref 62), some (.int b), some (.int w), some (.int v), some (.int 1)]) dX7_fit_40 (by decide) rfl ?_
        refine xg_iload (pc := 42) dX7_fit_42 rfl ?_
        refine xg_if_eq (pc := 44) (tgt := 63) dX7_fit_44 (by decide) (fun c_44 => absurd c_44 (by decide)) (fun c_44 => ?_)
        obtain ⟨bn, hbn, rfl⟩ := idxB ok c_5
        have ebn : ix (nI bn) = bn := nI_clamp (by omega)
        refine xg_aload_n (pc := 47) dX7_fit_47 rfl ?_
        rcases (show w = 0 from c_9) with rfl
        ·
          refine xg_bipush (v := 45) (pc := 48) dX7_fit_48 (by decide) ?_
          refine xg_iconst (v := 4) (pc := 50) dX7_fit_50 (by decide) ?_
          refine xg_iload_n (pc := 51) dX7_fit_51 rfl ?_
          refine xg_imul (pc := 52) dX7_fit_52 ?_
          refine xg_iadd (pc := 53) dX7_fit_53 ?_
          refine xg_iload_n (pc := 54) dX7_fit_54 rfl ?_
          refine xg_iadd (pc := 55) dX7_fit_55 ?_
          refine xg_iload_n (pc := 56) dX7_fit_56 rfl ?_
          refine xg_eq2 (show ((45 + (4 * (nI bn))) + 0 : Int32) = nI (45 + 4 * bn + 0) from by simp only [xlit, nI_add, pk_mul]) ?_
          refine xg_cvI (pc := 57) (h1 := hp lk o (upd mf (45 + 4 * bn + 0) v) wf q) (x := mf (45 + 4 * bn + 0)) (M' := mX7_becomes) dX7_fit_57 lkX7_80 mcX7_becomes hp_62 rfl (ev_X7_becomes (j := (45 + 4 * bn + 0)) (by omega)) rfl rfl (Nat.le_of_ble_eq_true rfl) ?_
          refine xg_goto (pc := 60) (tgt := 69) dX7_fit_60 (by decide) ?_
          exact xg_iret (pc := 69) dX7_fit_69 rfl (rqR (j := none) (g := upd mf (45 + 4 * bn + 0) v) (by unfold sp_fit; refine (if_pos (by first | assumption | (simp only [Int32.lt_iff_toInt_lt, Int32.le_iff_toInt_le, Int32.not_lt, Int32.not_le, ← Int32.toInt_inj, Int64.lt_iff_toInt_lt, Int64.le_iff_toInt_le, Int64.not_lt, Int64.not_le, Classical.not_not, Int32.reduceToInt, Int64.reduceToInt] at *; omega) | (simp_all; done))).trans ?_; first | (with_reducible rfl) | (simp only [*, ix_0, ix_1, ix_2, ix_3, ix_4]; done) | (simp [*, ix_0, ix_1, ix_2, ix_3, ix_4]; done) | rfl | (simp_all [ix_0, ix_1, ix_2, ix_3, ix_4]; done)) eq65.rf)
      ·
        refine xg_iload_n (pc := 19) dX7_fit_19 rfl ?_
        refine xg_iconst (v := 1) (pc := 20) dX7_fit_20 (by decide) ?_
        refine xg_icmp_ne (pc := 21) (tgt := 39) dX7_fit_21 (by decide) (fun c_21 => ?_) (fun c_21 => ?_)
        ·
          refine xg_iconst (v := 0) (pc := 39) dX7_fit_39 (by decide) ?_
          refine xg_istore (pc := 40) (ls' := [some (.ref 62), some (.int b), some (.int w), some (.int v), some (.int 0)]) dX7_fit_40 (by decide) rfl ?_
          refine xg_iload (pc := 42) dX7_fit_42 rfl ?_
          refine xg_if_eq (pc := 44) (tgt := 63) dX7_fit_44 (by decide) (fun c_44 => ?_) (fun c_44 => absurd c_44 (by decide))
          refine xg_aload_n (pc := 63) dX7_fit_63 rfl ?_
          refine xg_ldc (v := -1000000001) (pc := 64) dX7_fit_64 ccX7_42 ?_
          refine xg_cvI (pc := 66) (h1 := hp lk o mf wf (q.1, q.2.1, upd q.2.2.1 0 (q.2.2.1 0 + 1), q.2.2.2.1, q.2.2.2.2.1, q.2.2.2.2.2.1, q.2.2.2.2.2.2.1, q.2.2.2.2.2.2.2.1, q.2.2.2.2.2.2.2.2.1, q.2.2.2.2.2.2.2.2.2.1, q.2.2.2.2.2.2.2.2.2.2.1, q.2.2.2.2.2.2.2.2.2.2.2.1, q.2.2.2.2.2.2.2.2.2.2.2.2.1, q.2.2.2.2.2.2.2.2.2.2.2.2.2.1, q.2.2.2.2.2.2.2.2.2.2.2.2.2.2)) (x := -1000000001) (M' := mX7_finds) dX7_fit_66 lkX7_44 mcX7_finds hp_62 rfl (ev_X7_finds (j := 0) (by decide) (by decide)) rfl rfl (Nat.le_of_ble_eq_true rfl) ?_
          exact xg_iret (pc := 69) dX7_fit_69 rfl (rqR (j := (some 0)) (g := mf) (by unfold sp_fit; refine (if_neg (by first | assumption | (simp only [Int32.lt_iff_toInt_lt, Int32.le_iff_toInt_le, Int32.not_lt, Int32.not_le, ← Int32.toInt_inj, Int64.lt_iff_toInt_lt, Int64.le_iff_toInt_le, Int64.not_lt, Int64.not_le, Classical.not_not, Int32.reduceToInt, Int64.reduceToInt] at *; omega) | (simp_all; done))).trans ?_; first | (with_reducible rfl) | (simp only [*, ix_0, ix_1, ix_2, ix_3, ix_4]; done) | (simp [*, ix_0, ix_1, ix_2, ix_3, ix_4]; done) | rfl | (simp_all [ix_0, ix_1, ix_2, ix_3, ix_4]; done)) eq65.rf)
        ·
          refine xg_iload_n (pc := 24) dX7_fit_24 rfl ?_
          refine xg_i2l (pc := 25) dX7_fit_25 ?_
          refine xg_iconst (v := 0) (pc := 26) dX7_fit_26 (by decide) ?_
          refine xg_bipush (v := 99) (pc := 27) dX7_fit_27 (by decide) ?_
          refine xg_csI (pc := 29) (h1 := hp lk o mf wf q) (x := if 0 ≤ v ∧ v ≤ 99 then 1 else 0) (M' := mX7_in) dX7_fit_29 lkX7_48 mcX7_in (ev_in) rfl rfl (Nat.le_of_ble_eq_true rfl) ?_
          refine xg_bz (pc := 32) (tgt := 39) dX7_fit_32 (by decide) (fun c_32 => ?_) (fun c_32 => ?_)
          ·
            refine xg_iconst (v := 0) (pc := 39) dX7_fit_39 (by decide) ?_
            refine xg_istore (pc := 40) (ls' := [some (.ref 62), some (.int b), some (.int w), some (.int v), some (.int 0)]) dX7_fit_40 (by decide) rfl ?_
            refine xg_iload (pc := 42) dX7_fit_42 rfl ?_
            refine xg_if_eq (pc := 44) (tgt := 63) dX7_fit_44 (by decide) (fun c_44 => ?_) (fun c_44 => absurd c_44 (by decide))
            refine xg_aload_n (pc := 63) dX7_fit_63 rfl ?_
            refine xg_ldc (v := -1000000001) (pc := 64) dX7_fit_64 ccX7_42 ?_
            refine xg_cvI (pc := 66) (h1 := hp lk o mf wf (q.1, q.2.1, upd q.2.2.1 0 (q.2.2.1 0 + 1), q.2.2.2.1, q.2.2.2.2.1, q.2.2.2.2.2.1, q.2.2.2.2.2.2.1, q.2.2.2.2.2.2.2.1, q.2.2.2.2.2.2.2.2.1, q.2.2.2.2.2.2.2.2.2.1, q.2.2.2.2.2.2.2.2.2.2.1, q.2.2.2.2.2.2.2.2.2.2.2.1, q.2.2.2.2.2.2.2.2.2.2.2.2.1, q.2.2.2.2.2.2.2.2.2.2.2.2.2.1, q.2.2.2.2.2.2.2.2.2.2.2.2.2.2)) (x := -1000000001) (M' := mX7_finds) dX7_fit_66 lkX7_44 mcX7_finds hp_62 rfl (ev_X7_finds (j := 0) (by decide) (by decide)) rfl rfl (Nat.le_of_ble_eq_true rfl) ?_
            exact xg_iret (pc := 69) dX7_fit_69 rfl (rqR (j := (some 0)) (g := mf) (by unfold sp_fit; refine (if_neg (by first | assumption | (simp only [Int32.lt_iff_toInt_lt, Int32.le_iff_toInt_le, Int32.not_lt, Int32.not_le, ← Int32.toInt_inj, Int64.lt_iff_toInt_lt, Int64.le_iff_toInt_le, Int64.not_lt, Int64.not_le, Classical.not_not, Int32.reduceToInt, Int64.reduceToInt] at *; omega) | (simp_all; done))).trans ?_; first | (with_reducible rfl) | (simp only [*, ix_0, ix_1, ix_2, ix_3, ix_4]; done) | (simp [*, ix_0, ix_1, ix_2, ix_3, ix_4]; done) | rfl | (simp_all [ix_0, ix_1, ix_2, ix_3, ix_4]; done)) eq65.rf)
          ·
            refine xg_iconst (v := 1) (pc := 35) dX7_fit_35 (by decide) ?_
            refine xg_goto (pc := 36) (tgt := 40) dX7_fit_36 (by decide) ?_
            refine xg_istore (pc := 40) (ls' := [some (.ref 62), some (.int b), some (.int w), some (.int v), some (.int 1)]) dX7_fit_40 (by decide) rfl ?_
            refine xg_iload (pc := 42) dX7_fit_42 rfl ?_
            refine xg_if_eq (pc := 44) (tgt := 63) dX7_fit_44 (by decide) (fun c_44 => absurd c_44 (by decide)) (fun c_44 => ?_)
            obtain ⟨bn, hbn, rfl⟩ := idxB ok c_5
            have ebn : ix (nI bn) = bn := nI_clamp (by omega)
            refine xg_aload_n (pc := 47) dX7_fit_47 rfl ?_
            rcases (show w = 1 from c_21) with rfl
            ·
              refine xg_bipush (v := 45) (pc := 48) dX7_fit_48 (by decide) ?_
              refine xg_iconst (v := 4) (pc := 50) dX7_fit_50 (by decide) ?_
              refine xg_iload_n (pc := 51) dX7_fit_51 rfl ?_
              refine xg_imul (pc := 52) dX7_fit_52 ?_
              refine xg_iadd (pc := 53) dX7_fit_53 ?_
              refine xg_iload_n (pc := 54) dX7_fit_54 rfl ?_
              refine xg_iadd (pc := 55) dX7_fit_55 ?_
              refine xg_iload_n (pc := 56) dX7_fit_56 rfl ?_
              refine xg_eq2 (show ((45 + (4 * (nI bn))) + 1 : Int32) = nI (45 + 4 * bn + 1) from by simp only [xlit, nI_add, pk_mul]) ?_
              refine xg_cvI (pc := 57) (h1 := hp lk o (upd mf (45 + 4 * bn + 1) v) wf q) (x := mf (45 + 4 * bn + 1)) (M' := mX7_becomes) dX7_fit_57 lkX7_80 mcX7_becomes hp_62 rfl (ev_X7_becomes (j := (45 + 4 * bn + 1)) (by omega)) rfl rfl (Nat.le_of_ble_eq_true rfl) ?_
              refine xg_goto (pc := 60) (tgt := 69) dX7_fit_60 (by decide) ?_
              exact xg_iret (pc := 69) dX7_fit_69 rfl (rqR (j := none) (g := upd mf (45 + 4 * bn + 1) v) (by unfold sp_fit; refine (if_pos (by first | assumption | (simp only [Int32.lt_iff_toInt_lt, Int32.le_iff_toInt_le, Int32.not_lt, Int32.not_le, ← Int32.toInt_inj, Int64.lt_iff_toInt_lt, Int64.le_iff_toInt_le, Int64.not_lt, Int64.not_le, Classical.not_not, Int32.reduceToInt, Int64.reduceToInt] at *; omega) | (simp_all; done))).trans ?_; first | (with_reducible rfl) | (simp only [*, ix_0, ix_1, ix_2, ix_3, ix_4]; done) | (simp [*, ix_0, ix_1, ix_2, ix_3, ix_4]; done) | rfl | (simp_all [ix_0, ix_1, ix_2, ix_3, ix_4]; done)) eq65.rf)
set_option maxRecDepth 100000 in
set_option maxHeartbeats 4000000 in
theorem ev_X7_hours {n : Int32} (okm : okM mf) : xEv X false (d + 8) 0 0 mX7_hours [.ref 62, .int n] (hp lk o mf wf q) (RQ lk o q (sp_hours mf (hsR (ix n) mf) n)) := by
  have ok := okm.1
  refine xEv.of (ls := [some (.ref 62), some (.int n)]) mcX7_hours.1.2.2.2.2 (Nat.le_of_ble_eq_true rfl) rfl ?_
  refine xg_iload_n (pc := 0) dX7_hours_0 rfl ?_
  refine xg_i2l (pc := 1) dX7_hours_1 ?_
  refine xg_iconst (v := 1) (pc := 2) dX7_hours_2 (by decide) ?_
  refine xg_bipush (v := 60) (pc := 3) dX7_hours_3 (by decide) ?_
  refine xg_csI (pc := 5) (h1 := hp lk o mf wf q) (x := if 1 ≤ n ∧ n ≤ 60 then 1 else 0) (M' := mX7_in) dX7_hours_5 lkX7_48 mcX7_in (ev_in) rfl rfl (Nat.le_of_ble_eq_true rfl) ?_
  refine xg_bnz (pc := 8) (tgt := 18) dX7_hours_8 (by decide) (fun c_8 => ?_) (fun c_8 => ?_)
  ·
    refine xg_aload_n (pc := 18) dX7_hours_18 rfl ?_
    refine xg_get (pc := 19) dX7_hours_19 flX7_9 hp_62 rfl ?_
    refine xg_iconst (v := 0) (pc := 22) dX7_hours_22 (by decide) ?_
    refine xg_iald (pc := 23) 0 dX7_hours_23 hp_63 rfl (by omega) (by decide) ?_
    refine xg_iload_n (pc := 24) dX7_hours_24 rfl ?_
    refine xg_iadd (pc := 25) dX7_hours_25 ?_
    refine xg_sipush (v := 9999) (pc := 26) dX7_hours_26 (by decide) ?_
    refine xg_icmp_le (pc := 29) (tgt := 39) dX7_hours_29 (by decide) (fun c_29 => ?_) (fun c_29 => ?_)
    ·
      obtain ⟨nn, hnn, rfl⟩ := rng1 (n := 60) c_8 (by decide)
      have enn : ix (nI nn) = nn := nI_clamp (by omega)
      refine xg_aload_n (pc := 39) dX7_hours_39 rfl ?_
      refine xg_iload_n (pc := 40) dX7_hours_40 rfl ?_
      refine xg_cvV (pc := 41) (h1 := hp lk o (hsR nn mf) wf q) (M' := mX7_goesOn) dX7_hours_41 lkX7_137 mcX7_goesOn hp_62 rfl (ev_X7_goesOn (n := nn) okm (by omega)) rfl rfl (Nat.le_of_ble_eq_true rfl) ?_
      refine xg_aload_n (pc := 44) dX7_hours_44 rfl ?_
      refine xg_iconst (v := 3) (pc := 45) dX7_hours_45 (by decide) ?_
      refine xg_cvI (pc := 46) (h1 := hp lk o (hsR nn mf) wf q) (x := sumI (sB (hsR nn mf) 3) (nB (hsR nn mf))) (M' := mX7_sumOf) dX7_hours_46 lkX7_140 mcX7_sumOf hp_62 rfl (ev_X7_sumOf (hsR_ok okm nn).1 (w := 3) (by decide)) rfl rfl (Nat.le_of_ble_eq_true rfl) ?_
      exact xg_iret (pc := 49) dX7_hours_49 rfl (rqR (j := none) (g := hsR nn mf) (by unfold sp_hours; refine (if_pos (by first | assumption | (simp only [Int32.lt_iff_toInt_lt, Int32.le_iff_toInt_le, Int32.not_lt, Int32.not_le, ← Int32.toInt_inj, Int64.lt_iff_toInt_lt, Int64.le_iff_toInt_le, Int64.not_lt, Int64.not_le, Classical.not_not, Int32.reduceToInt, Int64.reduceToInt] at *; omega) | (simp_all; done))).trans ?_; refine (if_neg (by first | assumption | (simp only [Int32.lt_iff_toInt_lt, Int32.le_iff_toInt_le, Int32.not_lt, Int32.not_le, ← Int32.toInt_inj, Int64.lt_iff_toInt_lt, Int64.le_iff_toInt_le, Int64.not_lt, Int64.not_le, Classical.not_not, Int32.reduceToInt, Int64.reduceToInt] at *; omega) | (simp_all; done))).trans ?_; first | (with_reducible rfl) | (simp only [*, ix_0, ix_1, ix_2, ix_3, ix_4]; done) | (simp [*, ix_0, ix_1, ix_2, ix_3, ix_4]; done) | rfl | (simp_all [ix_0, ix_1, ix_2, ix_3, ix_4]; done)) eq65.rf)
    ·
      refine xg_aload_n (pc := 32) dX7_hours_32 rfl ?_
      refine xg_ldc (v := -1000000005) (pc := 33) dX7_hours_33 ccX7_136 ?_
      refine xg_cvI (pc := 35) (h1 := hp lk o mf wf (q.1, q.2.1, upd q.2.2.1 4 (q.2.2.1 4 + 1), q.2.2.2.1, q.2.2.2.2.1, q.2.2.2.2.2.1, q.2.2.2.2.2.2.1, q.2.2.2.2.2.2.2.1, q.2.2.2.2.2.2.2.2.1, q.2.2.2.2.2.2.2.2.2.1, q.2.2.2.2.2.2.2.2.2.2.1, q.2.2.2.2.2.2.2.2.2.2.2.1, q.2.2.2.2.2.2.2.2.2.2.2.2.1, q.2.2.2.2.2.2.2.2.2.2.2.2.2.1, q.2.2.2.2.2.2.2.2.2.2.2.2.2.2)) (x := -1000000005) (M' := mX7_finds) dX7_hours_35 lkX7_44 mcX7_finds hp_62 rfl (ev_X7_finds (j := 4) (by decide) (by decide)) rfl rfl (Nat.le_of_ble_eq_true rfl) ?_
      exact xg_iret (pc := 38) dX7_hours_38 rfl (rqR (j := (some 4)) (g := mf) (by unfold sp_hours; refine (if_pos (by first | assumption | (simp only [Int32.lt_iff_toInt_lt, Int32.le_iff_toInt_le, Int32.not_lt, Int32.not_le, ← Int32.toInt_inj, Int64.lt_iff_toInt_lt, Int64.le_iff_toInt_le, Int64.not_lt, Int64.not_le, Classical.not_not, Int32.reduceToInt, Int64.reduceToInt] at *; omega) | (simp_all; done))).trans ?_; refine (if_pos (by first | assumption | (simp only [Int32.lt_iff_toInt_lt, Int32.le_iff_toInt_le, Int32.not_lt, Int32.not_le, ← Int32.toInt_inj, Int64.lt_iff_toInt_lt, Int64.le_iff_toInt_le, Int64.not_lt, Int64.not_le, Classical.not_not, Int32.reduceToInt, Int64.reduceToInt] at *; omega) | (simp_all; done))).trans ?_; first | (with_reducible rfl) | (simp only [*, ix_0, ix_1, ix_2, ix_3, ix_4]; done) | (simp [*, ix_0, ix_1, ix_2, ix_3, ix_4]; done) | rfl | (simp_all [ix_0, ix_1, ix_2, ix_3, ix_4]; done)) eq65.rf)
  ·
    refine xg_aload_n (pc := 11) dX7_hours_11 rfl ?_
    refine xg_ldc (v := -1000000001) (pc := 12) dX7_hours_12 ccX7_42 ?_
    refine xg_cvI (pc := 14) (h1 := hp lk o mf wf (q.1, q.2.1, upd q.2.2.1 0 (q.2.2.1 0 + 1), q.2.2.2.1, q.2.2.2.2.1, q.2.2.2.2.2.1, q.2.2.2.2.2.2.1, q.2.2.2.2.2.2.2.1, q.2.2.2.2.2.2.2.2.1, q.2.2.2.2.2.2.2.2.2.1, q.2.2.2.2.2.2.2.2.2.2.1, q.2.2.2.2.2.2.2.2.2.2.2.1, q.2.2.2.2.2.2.2.2.2.2.2.2.1, q.2.2.2.2.2.2.2.2.2.2.2.2.2.1, q.2.2.2.2.2.2.2.2.2.2.2.2.2.2)) (x := -1000000001) (M' := mX7_finds) dX7_hours_14 lkX7_44 mcX7_finds hp_62 rfl (ev_X7_finds (j := 0) (by decide) (by decide)) rfl rfl (Nat.le_of_ble_eq_true rfl) ?_
    exact xg_iret (pc := 17) dX7_hours_17 rfl (rqR (j := (some 0)) (g := mf) (by unfold sp_hours; refine (if_neg (by first | assumption | (simp only [Int32.lt_iff_toInt_lt, Int32.le_iff_toInt_le, Int32.not_lt, Int32.not_le, ← Int32.toInt_inj, Int64.lt_iff_toInt_lt, Int64.le_iff_toInt_le, Int64.not_lt, Int64.not_le, Classical.not_not, Int32.reduceToInt, Int64.reduceToInt] at *; omega) | (simp_all; done))).trans ?_; first | (with_reducible rfl) | (simp only [*, ix_0, ix_1, ix_2, ix_3, ix_4]; done) | (simp [*, ix_0, ix_1, ix_2, ix_3, ix_4]; done) | rfl | (simp_all [ix_0, ix_1, ix_2, ix_3, ix_4]; done)) eq65.rf)
set_option maxRecDepth 100000 in
theorem lp_X7_of {w : Int32} {tn : Nat} (ht8 : tn < 8) (hr : rng6 (rR mf tn)) : ∀ (k tq : Nat), tq + k = ix (rR mf tn) → xGo X false (d + 3) 0 0 mX7_of 70 [some (.ref 62), some (.int (nI tn)), some (.int w), some (.int (sumI (shW mf tn) tq)), some (.int (nI tq))] [] (hp lk o mf wf q) (fun v h' => v = [.int (sumI (shW mf tn) (ix (rR mf tn)))] ∧ h' = hp lk o mf wf q) := by
  intro k
  induction k with
  | zero =>
    intro tq ht
    have h6 := hr.2
    have etq : tq = ix (rR mf tn) := by omega
    subst etq
    refine xg_iload (pc := 70) dX7_of_70 rfl ?_
    refine xg_aload_n (pc := 72) dX7_of_72 rfl ?_
    refine xg_iload_n (pc := 73) dX7_of_73 rfl ?_
    refine xg_cvI (pc := 74) (h1 := hp lk o mf wf q) (x := rR mf tn) (M' := mX7_reachOf) dX7_of_74 lkX7_60 mcX7_reachOf hp_62 rfl (ev_X7_reachOf (t := tn) (by omega)) rfl rfl (Nat.le_of_ble_eq_true rfl) ?_
    refine xg_eq hr.1 ?_
    refine xg_icmp_ge (pc := 77) (tgt := 96) dX7_of_77 (by decide) (fun c_77 => ?_) (fun c_77 => absurd c_77 (fun q => q (nI_le (by omega) (by omega))))
    refine xg_iload_n (pc := 96) dX7_of_96 rfl ?_
    exact xg_iret (pc := 97) dX7_of_97 rfl (⟨by rfl, rfl⟩)
  | succ k ih =>
    intro tq ht
    have h6 := hr.2
    refine xg_iload (pc := 70) dX7_of_70 rfl ?_
    refine xg_aload_n (pc := 72) dX7_of_72 rfl ?_
    refine xg_iload_n (pc := 73) dX7_of_73 rfl ?_
    refine xg_cvI (pc := 74) (h1 := hp lk o mf wf q) (x := rR mf tn) (M' := mX7_reachOf) dX7_of_74 lkX7_60 mcX7_reachOf hp_62 rfl (ev_X7_reachOf (t := tn) (by omega)) rfl rfl (Nat.le_of_ble_eq_true rfl) ?_
    refine xg_eq hr.1 ?_
    refine xg_icmp_ge (pc := 77) (tgt := 96) dX7_of_77 (by decide) (fun c_77 => absurd c_77 (nI_ge (by omega) (by omega))) (fun c_77 => ?_)
    refine xg_iload_n (pc := 80) dX7_of_80 rfl ?_
    refine xg_aload_n (pc := 81) dX7_of_81 rfl ?_
    refine xg_iload_n (pc := 82) dX7_of_82 rfl ?_
    refine xg_iload (pc := 83) dX7_of_83 rfl ?_
    refine xg_cvI (pc := 85) (h1 := hp lk o mf wf q) (x := shn (mf (5 + 5 * tn)) (mf (5 + 5 * tn + 3)) (nI tq)) (M' := mX7_shineOf) dX7_of_85 lkX7_67 mcX7_shineOf hp_62 rfl (ev_X7_shineOf (t := tn) (by omega) (by rw [nI_1]; exact nI_ne0 (by omega) (by omega))) rfl rfl (Nat.le_of_ble_eq_true rfl) ?_
    refine xg_iadd (pc := 88) dX7_of_88 ?_
    refine xg_istore_n (pc := 89) (ls' := [some (.ref 62), some (.int (nI tn)), some (.int w), some (.int ((sumI (shW mf tn) tq) + (shn (mf (5 + 5 * tn)) (mf (5 + 5 * tn + 3)) (nI tq)))), some (.int (nI tq))]) dX7_of_89 (by decide) rfl ?_
    refine xg_iinc (pc := 90) (y := nI (tq + 1)) (ls' := [some (.ref 62), some (.int (nI tn)), some (.int w), some (.int ((sumI (shW mf tn) tq) + (shn (mf (5 + 5 * tn)) (mf (5 + 5 * tn + 3)) (nI tq)))), some (.int (nI (tq + 1)))]) dX7_of_90 rfl (xinc _) (by decide) rfl ?_
    refine xg_goto (pc := 93) (tgt := 70) dX7_of_93 (by decide) ?_
    rw [show ((sumI (shW mf tn) tq) + (shn (mf (5 + 5 * tn)) (mf (5 + 5 * tn + 3)) (nI tq)) : Int32) = sumI (shW mf tn) (tq + 1) from by rw [sumI, shW]]
    exact ih (tq + 1) (by omega)
set_option maxRecDepth 100000 in
set_option maxHeartbeats 4000000 in
theorem ev_X7_of {t w : Int32} (ok : okN mf) (hre : ∀ t, t < nT mf → rng6 (rR mf t)) : xEv X false (d + 3) 0 0 mX7_of [.ref 62, .int t, .int w] (hp lk o mf wf q) (RQ lk o q (sp_of mf (rR mf (ix t)) (sumI (shW mf (ix t)) (ix (rR mf (ix t)))) t w)) := by
  have h8 := ok.2.1
  refine xEv.of (ls := [some (.ref 62), some (.int t), some (.int w), none, none]) mcX7_of.1.2.2.2.2 (Nat.le_of_ble_eq_true rfl) rfl ?_
  refine xg_aload_n (pc := 0) dX7_of_0 rfl ?_
  refine xg_iload_n (pc := 1) dX7_of_1 rfl ?_
  refine xg_cvI (pc := 2) (h1 := hp lk o mf wf q) (x := if 0 ≤ t ∧ t < mf 3 then 1 else 0) (M' := mX7_isThing) dX7_of_2 lkX7_106 mcX7_isThing hp_62 rfl (ev_isT ok) rfl rfl (Nat.le_of_ble_eq_true rfl) ?_
  refine xg_bz (pc := 5) (tgt := 19) dX7_of_5 (by decide) (fun c_5 => ?_) (fun c_5 => ?_)
  ·
    refine xg_aload_n (pc := 19) dX7_of_19 rfl ?_
    refine xg_ldc (v := -1000000001) (pc := 20) dX7_of_20 ccX7_42 ?_
    refine xg_cvI (pc := 22) (h1 := hp lk o mf wf (q.1, q.2.1, upd q.2.2.1 0 (q.2.2.1 0 + 1), q.2.2.2.1, q.2.2.2.2.1, q.2.2.2.2.2.1, q.2.2.2.2.2.2.1, q.2.2.2.2.2.2.2.1, q.2.2.2.2.2.2.2.2.1, q.2.2.2.2.2.2.2.2.2.1, q.2.2.2.2.2.2.2.2.2.2.1, q.2.2.2.2.2.2.2.2.2.2.2.1, q.2.2.2.2.2.2.2.2.2.2.2.2.1, q.2.2.2.2.2.2.2.2.2.2.2.2.2.1, q.2.2.2.2.2.2.2.2.2.2.2.2.2.2)) (x := -1000000001) (M' := mX7_finds) dX7_of_22 lkX7_44 mcX7_finds hp_62 rfl (ev_X7_finds (j := 0) (by decide) (by decide)) rfl rfl (Nat.le_of_ble_eq_true rfl) ?_
    exact xg_iret (pc := 25) dX7_of_25 rfl (rqR (j := (some 0)) (g := mf) (by unfold sp_of; refine (if_neg (by first | assumption | (simp only [Int32.lt_iff_toInt_lt, Int32.le_iff_toInt_le, Int32.not_lt, Int32.not_le, ← Int32.toInt_inj, Int64.lt_iff_toInt_lt, Int64.le_iff_toInt_le, Int64.not_lt, Int64.not_le, Classical.not_not, Int32.reduceToInt, Int64.reduceToInt] at *; omega) | (simp_all; done))).trans ?_; first | (with_reducible rfl) | (simp only [*, ix_0, ix_1, ix_2, ix_3, ix_4]; done) | (simp [*, ix_0, ix_1, ix_2, ix_3, ix_4]; done) | rfl | (simp_all [ix_0, ix_1, ix_2, ix_3, ix_4]; done)) eq65.rf)
  ·
    refine xg_iload_n (pc := 8) dX7_of_8 rfl ?_
    refine xg_i2l (pc := 9) dX7_of_9 ?_
    refine xg_iconst (v := 0) (pc := 10) dX7_of_10 (by decide) ?_
    refine xg_bipush (v := 7) (pc := 11) dX7_of_11 (by decide) ?_
    refine xg_csI (pc := 13) (h1 := hp lk o mf wf q) (x := if 0 ≤ w ∧ w ≤ 7 then 1 else 0) (M' := mX7_in) dX7_of_13 lkX7_48 mcX7_in (ev_in) rfl rfl (Nat.le_of_ble_eq_true rfl) ?_
    refine xg_bnz (pc := 16) (tgt := 26) dX7_of_16 (by decide) (fun c_16 => ?_) (fun c_16 => ?_)
    ·
      obtain ⟨tn, htn, rfl⟩ := idxT ok c_5
      have etn : ix (nI tn) = tn := nI_clamp (by omega)
      refine xg_iload_n (pc := 26) dX7_of_26 rfl ?_
      refine xg_bipush (v := 7) (pc := 27) dX7_of_27 (by decide) ?_
      refine xg_icmp_ge (pc := 29) (tgt := 65) dX7_of_29 (by decide) (fun c_29 => ?_) (fun c_29 => ?_)
      ·
        refine xg_iconst (v := 0) (pc := 65) dX7_of_65 (by decide) ?_
        refine xg_istore_n (pc := 66) (ls' := [some (.ref 62), some (.int (nI tn)), some (.int w), some (.int 0), none]) dX7_of_66 (by decide) rfl ?_
        refine xg_iconst (v := 0) (pc := 67) dX7_of_67 (by decide) ?_
        refine xg_istore (pc := 68) (ls' := [some (.ref 62), some (.int (nI tn)), some (.int w), some (.int 0), some (.int 0)]) dX7_of_68 (by decide) rfl ?_
        have ew7 := w7 c_16 c_29
        subst ew7
        refine xg_mono (fun v h' q => ?_) (lp_X7_of (by omega) (hre tn htn) (ix (rR mf tn)) 0 (by omega))
        rw [q.1, q.2]
        exact rqR (j := none) (g := mf) (by unfold sp_of; rw [etn, if_pos c_5, if_neg (by decide), if_neg (by decide), if_neg (by decide), if_pos rfl]) eq65.rf
      ·
        refine xg_iload_n (pc := 32) dX7_of_32 rfl ?_
        refine xg_iconst (v := 5) (pc := 33) dX7_of_33 (by decide) ?_
        refine xg_icmp_ge (pc := 34) (tgt := 46) dX7_of_34 (by decide) (fun c_34 => ?_) (fun c_34 => ?_)
        ·
          refine xg_iload_n (pc := 46) dX7_of_46 rfl ?_
          refine xg_iconst (v := 5) (pc := 47) dX7_of_47 (by decide) ?_
          refine xg_icmp_ne (pc := 48) (tgt := 59) dX7_of_48 (by decide) (fun c_48 => ?_) (fun c_48 => ?_)
          ·
            have ew6 := w6 c_16 c_29 c_34 c_48
            refine xg_aload_n (pc := 59) dX7_of_59 rfl ?_
            refine xg_iload_n (pc := 60) dX7_of_60 rfl ?_
            refine xg_cvI (pc := 61) (h1 := hp lk o mf wf q) (x := txd (mf (5 + 5 * tn)) (mf (5 + 5 * tn + 4))) (M' := mX7_taxOf) dX7_of_61 lkX7_74 mcX7_taxOf hp_62 rfl (ev_X7_taxOf (t := tn) (by omega)) rfl rfl (Nat.le_of_ble_eq_true rfl) ?_
            exact xg_iret (pc := 64) dX7_of_64 rfl (rqR (j := none) (g := mf) (by unfold sp_of; refine (if_pos (by first | assumption | (simp only [Int32.lt_iff_toInt_lt, Int32.le_iff_toInt_le, Int32.not_lt, Int32.not_le, ← Int32.toInt_inj, Int64.lt_iff_toInt_lt, Int64.le_iff_toInt_le, Int64.not_lt, Int64.not_le, Classical.not_not, Int32.reduceToInt, Int64.reduceToInt] at *; omega) | (simp_all; done))).trans ?_; refine (if_neg (by first | assumption | (simp only [Int32.lt_iff_toInt_lt, Int32.le_iff_toInt_le, Int32.not_lt, Int32.not_le, ← Int32.toInt_inj, Int64.lt_iff_toInt_lt, Int64.le_iff_toInt_le, Int64.not_lt, Int64.not_le, Classical.not_not, Int32.reduceToInt, Int64.reduceToInt] at *; omega) | (simp_all; done))).trans ?_; refine (if_neg (by first | assumption | (simp only [Int32.lt_iff_toInt_lt, Int32.le_iff_toInt_le, Int32.not_lt, Int32.not_le, ← Int32.toInt_inj, Int64.lt_iff_toInt_lt, Int64.le_iff_toInt_le, Int64.not_lt, Int64.not_le, Classical.not_not, Int32.reduceToInt, Int64.reduceToInt] at *; omega) | (simp_all; done))).trans ?_; refine (if_pos (by first | assumption | (simp only [Int32.lt_iff_toInt_lt, Int32.le_iff_toInt_le, Int32.not_lt, Int32.not_le, ← Int32.toInt_inj, Int64.lt_iff_toInt_lt, Int64.le_iff_toInt_le, Int64.not_lt, Int64.not_le, Classical.not_not, Int32.reduceToInt, Int64.reduceToInt] at *; omega) | (simp_all; done))).trans ?_; first | (with_reducible rfl) | (simp only [*, ix_0, ix_1, ix_2, ix_3, ix_4]; done) | (simp [*, ix_0, ix_1, ix_2, ix_3, ix_4]; done) | rfl | (simp_all [ix_0, ix_1, ix_2, ix_3, ix_4]; done)) eq65.rf)
          ·
            refine xg_aload_n (pc := 51) dX7_of_51 rfl ?_
            refine xg_iload_n (pc := 52) dX7_of_52 rfl ?_
            refine xg_cvI (pc := 53) (h1 := hp lk o mf wf q) (x := rR mf tn) (M' := mX7_reachOf) dX7_of_53 lkX7_60 mcX7_reachOf hp_62 rfl (ev_X7_reachOf (t := tn) (by omega)) rfl rfl (Nat.le_of_ble_eq_true rfl) ?_
            refine xg_goto (pc := 56) (tgt := 64) dX7_of_56 (by decide) ?_
            exact xg_iret (pc := 64) dX7_of_64 rfl (rqR (j := none) (g := mf) (by unfold sp_of; refine (if_pos (by first | assumption | (simp only [Int32.lt_iff_toInt_lt, Int32.le_iff_toInt_le, Int32.not_lt, Int32.not_le, ← Int32.toInt_inj, Int64.lt_iff_toInt_lt, Int64.le_iff_toInt_le, Int64.not_lt, Int64.not_le, Classical.not_not, Int32.reduceToInt, Int64.reduceToInt] at *; omega) | (simp_all; done))).trans ?_; refine (if_neg (by first | assumption | (simp only [Int32.lt_iff_toInt_lt, Int32.le_iff_toInt_le, Int32.not_lt, Int32.not_le, ← Int32.toInt_inj, Int64.lt_iff_toInt_lt, Int64.le_iff_toInt_le, Int64.not_lt, Int64.not_le, Classical.not_not, Int32.reduceToInt, Int64.reduceToInt] at *; omega) | (simp_all; done))).trans ?_; refine (if_pos (by first | assumption | (simp only [Int32.lt_iff_toInt_lt, Int32.le_iff_toInt_le, Int32.not_lt, Int32.not_le, ← Int32.toInt_inj, Int64.lt_iff_toInt_lt, Int64.le_iff_toInt_le, Int64.not_lt, Int64.not_le, Classical.not_not, Int32.reduceToInt, Int64.reduceToInt] at *; omega) | (simp_all; done))).trans ?_; first | (with_reducible rfl) | (simp only [*, ix_0, ix_1, ix_2, ix_3, ix_4]; done) | (simp [*, ix_0, ix_1, ix_2, ix_3, ix_4]; done) | rfl | (simp_all [ix_0, ix_1, ix_2, ix_3, ix_4]; done)) eq65.rf)
        ·
          rcases w04 c_16 c_34 with rfl | rfl | rfl | rfl | rfl
          ·
            refine xg_aload_n (pc := 37) dX7_of_37 rfl ?_
            refine xg_iload_n (pc := 38) dX7_of_38 rfl ?_
            refine xg_iload_n (pc := 39) dX7_of_39 rfl ?_
            refine xg_cvI (pc := 40) (h1 := hp lk o mf wf q) (x := mf (5 + 5 * tn)) (M' := mX7_lit) dX7_of_40 lkX7_52 mcX7_lit hp_62 rfl (ev_X7_lit (t := tn) (w := 0) (by omega)) rfl rfl (Nat.le_of_ble_eq_true rfl) ?_
            refine xg_goto (pc := 43) (tgt := 64) dX7_of_43 (by decide) ?_
            exact xg_iret (pc := 64) dX7_of_64 rfl (rqR (j := none) (g := mf) (by unfold sp_of; refine (if_pos (by first | assumption | (simp only [Int32.lt_iff_toInt_lt, Int32.le_iff_toInt_le, Int32.not_lt, Int32.not_le, ← Int32.toInt_inj, Int64.lt_iff_toInt_lt, Int64.le_iff_toInt_le, Int64.not_lt, Int64.not_le, Classical.not_not, Int32.reduceToInt, Int64.reduceToInt] at *; omega) | (simp_all; done))).trans ?_; refine (if_pos (by first | assumption | (simp only [Int32.lt_iff_toInt_lt, Int32.le_iff_toInt_le, Int32.not_lt, Int32.not_le, ← Int32.toInt_inj, Int64.lt_iff_toInt_lt, Int64.le_iff_toInt_le, Int64.not_lt, Int64.not_le, Classical.not_not, Int32.reduceToInt, Int64.reduceToInt] at *; omega) | (simp_all; done))).trans ?_; first | (with_reducible rfl) | (simp only [*, ix_0, ix_1, ix_2, ix_3, ix_4]; done) | (simp [*, ix_0, ix_1, ix_2, ix_3, ix_4]; done) | rfl | (simp_all [ix_0, ix_1, ix_2, ix_3, ix_4]; done)) eq65.rf)
          ·
            refine xg_aload_n (pc := 37) dX7_of_37 rfl ?_
            refine xg_iload_n (pc := 38) dX7_of_38 rfl ?_
            refine xg_iload_n (pc := 39) dX7_of_39 rfl ?_
            refine xg_cvI (pc := 40) (h1 := hp lk o mf wf q) (x := mf (5 + 5 * tn + 1)) (M' := mX7_lit) dX7_of_40 lkX7_52 mcX7_lit hp_62 rfl (ev_X7_lit (t := tn) (w := 1) (by omega)) rfl rfl (Nat.le_of_ble_eq_true rfl) ?_
            refine xg_goto (pc := 43) (tgt := 64) dX7_of_43 (by decide) ?_
            exact xg_iret (pc := 64) dX7_of_64 rfl (rqR (j := none) (g := mf) (by unfold sp_of; refine (if_pos (by first | assumption | (simp only [Int32.lt_iff_toInt_lt, Int32.le_iff_toInt_le, Int32.not_lt, Int32.not_le, ← Int32.toInt_inj, Int64.lt_iff_toInt_lt, Int64.le_iff_toInt_le, Int64.not_lt, Int64.not_le, Classical.not_not, Int32.reduceToInt, Int64.reduceToInt] at *; omega) | (simp_all; done))).trans ?_; refine (if_pos (by first | assumption | (simp only [Int32.lt_iff_toInt_lt, Int32.le_iff_toInt_le, Int32.not_lt, Int32.not_le, ← Int32.toInt_inj, Int64.lt_iff_toInt_lt, Int64.le_iff_toInt_le, Int64.not_lt, Int64.not_le, Classical.not_not, Int32.reduceToInt, Int64.reduceToInt] at *; omega) | (simp_all; done))).trans ?_; first | (with_reducible rfl) | (simp only [*, ix_0, ix_1, ix_2, ix_3, ix_4]; done) | (simp [*, ix_0, ix_1, ix_2, ix_3, ix_4]; done) | rfl | (simp_all [ix_0, ix_1, ix_2, ix_3, ix_4]; done)) eq65.rf)
          ·
            refine xg_aload_n (pc := 37) dX7_of_37 rfl ?_
            refine xg_iload_n (pc := 38) dX7_of_38 rfl ?_
            refine xg_iload_n (pc := 39) dX7_of_39 rfl ?_
            refine xg_cvI (pc := 40) (h1 := hp lk o mf wf q) (x := mf (5 + 5 * tn + 2)) (M' := mX7_lit) dX7_of_40 lkX7_52 mcX7_lit hp_62 rfl (ev_X7_lit (t := tn) (w := 2) (by omega)) rfl rfl (Nat.le_of_ble_eq_true rfl) ?_
            refine xg_goto (pc := 43) (tgt := 64) dX7_of_43 (by decide) ?_
            exact xg_iret (pc := 64) dX7_of_64 rfl (rqR (j := none) (g := mf) (by unfold sp_of; refine (if_pos (by first | assumption | (simp only [Int32.lt_iff_toInt_lt, Int32.le_iff_toInt_le, Int32.not_lt, Int32.not_le, ← Int32.toInt_inj, Int64.lt_iff_toInt_lt, Int64.le_iff_toInt_le, Int64.not_lt, Int64.not_le, Classical.not_not, Int32.reduceToInt, Int64.reduceToInt] at *; omega) | (simp_all; done))).trans ?_; refine (if_pos (by first | assumption | (simp only [Int32.lt_iff_toInt_lt, Int32.le_iff_toInt_le, Int32.not_lt, Int32.not_le, ← Int32.toInt_inj, Int64.lt_iff_toInt_lt, Int64.le_iff_toInt_le, Int64.not_lt, Int64.not_le, Classical.not_not, Int32.reduceToInt, Int64.reduceToInt] at *; omega) | (simp_all; done))).trans ?_; first | (with_reducible rfl) | (simp only [*, ix_0, ix_1, ix_2, ix_3, ix_4]; done) | (simp [*, ix_0, ix_1, ix_2, ix_3, ix_4]; done) | rfl | (simp_all [ix_0, ix_1, ix_2, ix_3, ix_4]; done)) eq65.rf)
          ·
            refine xg_aload_n (pc := 37) dX7_of_37 rfl ?_
            refine xg_iload_n (pc := 38) dX7_of_38 rfl ?_
            refine xg_iload_n (pc := 39) dX7_of_39 rfl ?_
            refine xg_cvI (pc := 40) (h1 := hp lk o mf wf q) (x := mf (5 + 5 * tn + 3)) (M' := mX7_lit) dX7_of_40 lkX7_52 mcX7_lit hp_62 rfl (ev_X7_lit (t := tn) (w := 3) (by omega)) rfl rfl (Nat.le_of_ble_eq_true rfl) ?_
            refine xg_goto (pc := 43) (tgt := 64) dX7_of_43 (by decide) ?_
            exact xg_iret (pc := 64) dX7_of_64 rfl (rqR (j := none) (g := mf) (by unfold sp_of; refine (if_pos (by first | assumption | (simp only [Int32.lt_iff_toInt_lt, Int32.le_iff_toInt_le, Int32.not_lt, Int32.not_le, ← Int32.toInt_inj, Int64.lt_iff_toInt_lt, Int64.le_iff_toInt_le, Int64.not_lt, Int64.not_le, Classical.not_not, Int32.reduceToInt, Int64.reduceToInt] at *; omega) | (simp_all; done))).trans ?_; refine (if_pos (by first | assumption | (simp only [Int32.lt_iff_toInt_lt, Int32.le_iff_toInt_le, Int32.not_lt, Int32.not_le, ← Int32.toInt_inj, Int64.lt_iff_toInt_lt, Int64.le_iff_toInt_le, Int64.not_lt, Int64.not_le, Classical.not_not, Int32.reduceToInt, Int64.reduceToInt] at *; omega) | (simp_all; done))).trans ?_; first | (with_reducible rfl) | (simp only [*, ix_0, ix_1, ix_2, ix_3, ix_4]; done) | (simp [*, ix_0, ix_1, ix_2, ix_3, ix_4]; done) | rfl | (simp_all [ix_0, ix_1, ix_2, ix_3, ix_4]; done)) eq65.rf)
          ·
            refine xg_aload_n (pc := 37) dX7_of_37 rfl ?_
            refine xg_iload_n (pc := 38) dX7_of_38 rfl ?_
            refine xg_iload_n (pc := 39) dX7_of_39 rfl ?_
            refine xg_cvI (pc := 40) (h1 := hp lk o mf wf q) (x := mf (5 + 5 * tn + 4)) (M' := mX7_lit) dX7_of_40 lkX7_52 mcX7_lit hp_62 rfl (ev_X7_lit (t := tn) (w := 4) (by omega)) rfl rfl (Nat.le_of_ble_eq_true rfl) ?_
            refine xg_goto (pc := 43) (tgt := 64) dX7_of_43 (by decide) ?_
            exact xg_iret (pc := 64) dX7_of_64 rfl (rqR (j := none) (g := mf) (by unfold sp_of; refine (if_pos (by first | assumption | (simp only [Int32.lt_iff_toInt_lt, Int32.le_iff_toInt_le, Int32.not_lt, Int32.not_le, ← Int32.toInt_inj, Int64.lt_iff_toInt_lt, Int64.le_iff_toInt_le, Int64.not_lt, Int64.not_le, Classical.not_not, Int32.reduceToInt, Int64.reduceToInt] at *; omega) | (simp_all; done))).trans ?_; refine (if_pos (by first | assumption | (simp only [Int32.lt_iff_toInt_lt, Int32.le_iff_toInt_le, Int32.not_lt, Int32.not_le, ← Int32.toInt_inj, Int64.lt_iff_toInt_lt, Int64.le_iff_toInt_le, Int64.not_lt, Int64.not_le, Classical.not_not, Int32.reduceToInt, Int64.reduceToInt] at *; omega) | (simp_all; done))).trans ?_; first | (with_reducible rfl) | (simp only [*, ix_0, ix_1, ix_2, ix_3, ix_4]; done) | (simp [*, ix_0, ix_1, ix_2, ix_3, ix_4]; done) | rfl | (simp_all [ix_0, ix_1, ix_2, ix_3, ix_4]; done)) eq65.rf)
    ·
      refine xg_aload_n (pc := 19) dX7_of_19 rfl ?_
      refine xg_ldc (v := -1000000001) (pc := 20) dX7_of_20 ccX7_42 ?_
      refine xg_cvI (pc := 22) (h1 := hp lk o mf wf (q.1, q.2.1, upd q.2.2.1 0 (q.2.2.1 0 + 1), q.2.2.2.1, q.2.2.2.2.1, q.2.2.2.2.2.1, q.2.2.2.2.2.2.1, q.2.2.2.2.2.2.2.1, q.2.2.2.2.2.2.2.2.1, q.2.2.2.2.2.2.2.2.2.1, q.2.2.2.2.2.2.2.2.2.2.1, q.2.2.2.2.2.2.2.2.2.2.2.1, q.2.2.2.2.2.2.2.2.2.2.2.2.1, q.2.2.2.2.2.2.2.2.2.2.2.2.2.1, q.2.2.2.2.2.2.2.2.2.2.2.2.2.2)) (x := -1000000001) (M' := mX7_finds) dX7_of_22 lkX7_44 mcX7_finds hp_62 rfl (ev_X7_finds (j := 0) (by decide) (by decide)) rfl rfl (Nat.le_of_ble_eq_true rfl) ?_
      exact xg_iret (pc := 25) dX7_of_25 rfl (rqR (j := (some 0)) (g := mf) (by unfold sp_of; refine (if_pos (by first | assumption | (simp only [Int32.lt_iff_toInt_lt, Int32.le_iff_toInt_le, Int32.not_lt, Int32.not_le, ← Int32.toInt_inj, Int64.lt_iff_toInt_lt, Int64.le_iff_toInt_le, Int64.not_lt, Int64.not_le, Classical.not_not, Int32.reduceToInt, Int64.reduceToInt] at *; omega) | (simp_all; done))).trans ?_; refine (if_neg (by first | assumption | (simp only [Int32.lt_iff_toInt_lt, Int32.le_iff_toInt_le, Int32.not_lt, Int32.not_le, ← Int32.toInt_inj, Int64.lt_iff_toInt_lt, Int64.le_iff_toInt_le, Int64.not_lt, Int64.not_le, Classical.not_not, Int32.reduceToInt, Int64.reduceToInt] at *; omega) | (simp_all; done))).trans ?_; refine (if_neg (by first | assumption | (simp only [Int32.lt_iff_toInt_lt, Int32.le_iff_toInt_le, Int32.not_lt, Int32.not_le, ← Int32.toInt_inj, Int64.lt_iff_toInt_lt, Int64.le_iff_toInt_le, Int64.not_lt, Int64.not_le, Classical.not_not, Int32.reduceToInt, Int64.reduceToInt] at *; omega) | (simp_all; done))).trans ?_; refine (if_neg (by first | assumption | (simp only [Int32.lt_iff_toInt_lt, Int32.le_iff_toInt_le, Int32.not_lt, Int32.not_le, ← Int32.toInt_inj, Int64.lt_iff_toInt_lt, Int64.le_iff_toInt_le, Int64.not_lt, Int64.not_le, Classical.not_not, Int32.reduceToInt, Int64.reduceToInt] at *; omega) | (simp_all; done))).trans ?_; refine (if_neg (by first | assumption | (simp only [Int32.lt_iff_toInt_lt, Int32.le_iff_toInt_le, Int32.not_lt, Int32.not_le, ← Int32.toInt_inj, Int64.lt_iff_toInt_lt, Int64.le_iff_toInt_le, Int64.not_lt, Int64.not_le, Classical.not_not, Int32.reduceToInt, Int64.reduceToInt] at *; omega) | (simp_all; done))).trans ?_; first | (with_reducible rfl) | (simp only [*, ix_0, ix_1, ix_2, ix_3, ix_4]; done) | (simp [*, ix_0, ix_1, ix_2, ix_3, ix_4]; done) | rfl | (simp_all [ix_0, ix_1, ix_2, ix_3, ix_4]; done)) eq65.rf)
set_option maxRecDepth 100000 in
theorem lp_now4 {w : Int32} (ok : okN mf) : ∀ (k tq : Nat), tq + k = nT mf → xGo X false (d + 4) 0 0 mX7_now 77 [some (.ref 62), some (.int w), some (.int (sumI (lA mf) tq)), some (.int (nI tq))] [] (hp lk o mf wf q) (fun v h' => v = [.int (sumI (lA mf) (nT mf))] ∧ h' = hp lk o mf wf q) := by
  intro k
  induction k with
  | zero =>
    intro tq ht
    have h8 := ok.2.1
    have etq : tq = nT mf := by omega
    subst etq
    refine xg_iload_n (pc := 77) dX7_now_77 rfl ?_
    refine xg_aload_n (pc := 78) dX7_now_78 rfl ?_
    refine xg_get (pc := 79) dX7_now_79 flX7_9 hp_62 rfl ?_
    refine xg_iconst (v := 3) (pc := 82) dX7_now_82 (by decide) ?_
    refine xg_iald (pc := 83) 3 dX7_now_83 hp_63 rfl (by omega) (by decide) ?_
    refine xg_eq ok.1 ?_
    refine xg_icmp_ge (pc := 84) (tgt := 102) dX7_now_84 (by decide) (fun c_84 => ?_) (fun c_84 => absurd c_84 (fun q => q (nI_le (by omega) (by omega))))
    refine xg_iload_n (pc := 102) dX7_now_102 rfl ?_
    exact xg_iret (pc := 103) dX7_now_103 rfl (⟨by rfl, rfl⟩)
  | succ k ih =>
    intro tq ht
    have h8 := ok.2.1
    refine xg_iload_n (pc := 77) dX7_now_77 rfl ?_
    refine xg_aload_n (pc := 78) dX7_now_78 rfl ?_
    refine xg_get (pc := 79) dX7_now_79 flX7_9 hp_62 rfl ?_
    refine xg_iconst (v := 3) (pc := 82) dX7_now_82 (by decide) ?_
    refine xg_iald (pc := 83) 3 dX7_now_83 hp_63 rfl (by omega) (by decide) ?_
    refine xg_eq ok.1 ?_
    refine xg_icmp_ge (pc := 84) (tgt := 102) dX7_now_84 (by decide) (fun c_84 => absurd c_84 (nI_ge (by omega) (by omega))) (fun c_84 => ?_)
    refine xg_iload_n (pc := 87) dX7_now_87 rfl ?_
    refine xg_aload_n (pc := 88) dX7_now_88 rfl ?_
    refine xg_iload_n (pc := 89) dX7_now_89 rfl ?_
    refine xg_iconst (v := 3) (pc := 90) dX7_now_90 (by decide) ?_
    refine xg_cvI (pc := 91) (h1 := hp lk o mf wf q) (x := mf (5 + 5 * tq + 3)) (M' := mX7_lit) dX7_now_91 lkX7_52 mcX7_lit hp_62 rfl (ev_X7_lit (t := tq) (w := 3) (by omega)) rfl rfl (Nat.le_of_ble_eq_true rfl) ?_
    refine xg_iadd (pc := 94) dX7_now_94 ?_
    refine xg_istore_n (pc := 95) (ls' := [some (.ref 62), some (.int w), some (.int ((sumI (lA mf) tq) + (mf (5 + 5 * tq + 3)))), some (.int (nI tq))]) dX7_now_95 (by decide) rfl ?_
    refine xg_iinc (pc := 96) (y := nI (tq + 1)) (ls' := [some (.ref 62), some (.int w), some (.int ((sumI (lA mf) tq) + (mf (5 + 5 * tq + 3)))), some (.int (nI (tq + 1)))]) dX7_now_96 rfl (xinc _) (by decide) rfl ?_
    refine xg_goto (pc := 99) (tgt := 77) dX7_now_99 (by decide) ?_
    rw [show ((sumI (lA mf) tq) + (mf (5 + 5 * tq + 3)) : Int32) = sumI (lA mf) (tq + 1) from by rw [sumI, lA]]
    exact ih (tq + 1) (by omega)
set_option maxRecDepth 100000 in
theorem lp_now5 {w : Int32} (ok : okN mf) : ∀ (k tq : Nat), tq + k = 48 → xGo X false (d + 4) 0 0 mX7_now 106 [some (.ref 62), some (.int w), some (.int (sumI (gAR mf) tq)), some (.int (nI tq))] [] (hp lk o mf wf q) (fun v h' => v = [.int (sumI (gAR mf) 48)] ∧ h' = hp lk o mf wf q) := by
  intro k
  induction k with
  | zero =>
    intro tq ht
    have h8 := ok.2.1
    have etq : tq = 48 := by omega
    subst etq
    refine xg_iload_n (pc := 106) dX7_now_106 rfl ?_
    refine xg_bipush (v := 48) (pc := 107) dX7_now_107 (by decide) ?_
    refine xg_icmp_ge (pc := 109) (tgt := 126) dX7_now_109 (by decide) (fun c_109 => ?_) (fun c_109 => absurd c_109 (by decide))
    refine xg_iload_n (pc := 126) dX7_now_126 rfl ?_
    exact xg_iret (pc := 127) dX7_now_127 rfl (⟨by rfl, rfl⟩)
  | succ k ih =>
    intro tq ht
    have h8 := ok.2.1
    refine xg_iload_n (pc := 106) dX7_now_106 rfl ?_
    refine xg_bipush (v := 48) (pc := 107) dX7_now_107 (by decide) ?_
    refine xg_icmp_ge (pc := 109) (tgt := 126) dX7_now_109 (by decide) (fun c_109 => absurd c_109 (nI_ge (b := 48) (by omega) (by omega))) (fun c_109 => ?_)
    refine xg_iload_n (pc := 112) dX7_now_112 rfl ?_
    refine xg_aload_n (pc := 113) dX7_now_113 rfl ?_
    refine xg_iload_n (pc := 114) dX7_now_114 rfl ?_
    refine xg_cvI (pc := 115) (h1 := hp lk o mf wf q) (x := glR mf (nI tq)) (M' := mX7_glintOf) dX7_now_115 lkX7_86 mcX7_glintOf hp_62 rfl (ev_X7_glintOf ok (cell_of (by omega))) rfl rfl (Nat.le_of_ble_eq_true rfl) ?_
    refine xg_iadd (pc := 118) dX7_now_118 ?_
    refine xg_istore_n (pc := 119) (ls' := [some (.ref 62), some (.int w), some (.int ((sumI (gAR mf) tq) + (glR mf (nI tq)))), some (.int (nI tq))]) dX7_now_119 (by decide) rfl ?_
    refine xg_iinc (pc := 120) (y := nI (tq + 1)) (ls' := [some (.ref 62), some (.int w), some (.int ((sumI (gAR mf) tq) + (glR mf (nI tq)))), some (.int (nI (tq + 1)))]) dX7_now_120 rfl (xinc _) (by decide) rfl ?_
    refine xg_goto (pc := 123) (tgt := 106) dX7_now_123 (by decide) ?_
    rw [show ((sumI (gAR mf) tq) + (glR mf (nI tq)) : Int32) = sumI (gAR mf) (tq + 1) from by rw [sumI, gAR]]
    exact ih (tq + 1) (by omega)
set_option maxRecDepth 100000 in
theorem lp_now6 {w : Int32} (ok : okN mf) : ∀ (k tq : Nat), tq + k = nT mf → xGo X false (d + 4) 0 0 mX7_now 130 [some (.ref 62), some (.int w), some (.int (orI (dA mf) tq)), some (.int (nI tq))] [] (hp lk o mf wf q) (fun v h' => v = [.int (orI (dA mf) (nT mf))] ∧ h' = hp lk o mf wf q) := by
  intro k
  induction k with
  | zero =>
    intro tq ht
    have h8 := ok.2.1
    have etq : tq = nT mf := by omega
    subst etq
    refine xg_iload_n (pc := 130) dX7_now_130 rfl ?_
    refine xg_aload_n (pc := 131) dX7_now_131 rfl ?_
    refine xg_get (pc := 132) dX7_now_132 flX7_9 hp_62 rfl ?_
    refine xg_iconst (v := 3) (pc := 135) dX7_now_135 (by decide) ?_
    refine xg_iald (pc := 136) 3 dX7_now_136 hp_63 rfl (by omega) (by decide) ?_
    refine xg_eq ok.1 ?_
    refine xg_icmp_ge (pc := 137) (tgt := 165) dX7_now_137 (by decide) (fun c_137 => ?_) (fun c_137 => absurd c_137 (fun q => q (nI_le (by omega) (by omega))))
    refine xg_iload_n (pc := 165) dX7_now_165 rfl ?_
    exact xg_iret (pc := 166) dX7_now_166 rfl (⟨by rfl, rfl⟩)
  | succ k ih =>
    intro tq ht
    have h8 := ok.2.1
    refine xg_iload_n (pc := 130) dX7_now_130 rfl ?_
    refine xg_aload_n (pc := 131) dX7_now_131 rfl ?_
    refine xg_get (pc := 132) dX7_now_132 flX7_9 hp_62 rfl ?_
    refine xg_iconst (v := 3) (pc := 135) dX7_now_135 (by decide) ?_
    refine xg_iald (pc := 136) 3 dX7_now_136 hp_63 rfl (by omega) (by decide) ?_
    refine xg_eq ok.1 ?_
    refine xg_icmp_ge (pc := 137) (tgt := 165) dX7_now_137 (by decide) (fun c_137 => absurd c_137 (nI_ge (by omega) (by omega))) (fun c_137 => ?_)
    refine xg_iload_n (pc := 140) dX7_now_140 rfl ?_
    refine xg_aload_n (pc := 141) dX7_now_141 rfl ?_
    refine xg_iload_n (pc := 142) dX7_now_142 rfl ?_
    refine xg_iconst (v := 3) (pc := 143) dX7_now_143 (by decide) ?_
    refine xg_cvI (pc := 144) (h1 := hp lk o mf wf q) (x := mf (5 + 5 * tq + 3)) (M' := mX7_lit) dX7_now_144 lkX7_52 mcX7_lit hp_62 rfl (ev_X7_lit (t := tq) (w := 3) (by omega)) rfl rfl (Nat.le_of_ble_eq_true rfl) ?_
    refine xg_if_ne (pc := 147) (tgt := 156) dX7_now_147 (by decide) (fun c_147 => ?_) (fun c_147 => ?_)
    ·
      refine xg_iconst (v := 0) (pc := 156) dX7_now_156 (by decide) ?_
      refine xg_ior (pc := 157) dX7_now_157 ?_
      refine xg_istore_n (pc := 158) (ls' := [some (.ref 62), some (.int w), some (.int ((orI (dA mf) tq) ||| 0)), some (.int (nI tq))]) dX7_now_158 (by decide) rfl ?_
      refine xg_iinc (pc := 159) (y := nI (tq + 1)) (ls' := [some (.ref 62), some (.int w), some (.int ((orI (dA mf) tq) ||| 0)), some (.int (nI (tq + 1)))]) dX7_now_159 rfl (xinc _) (by decide) rfl ?_
      refine xg_goto (pc := 162) (tgt := 130) dX7_now_162 (by decide) ?_
      rw [show ((orI (dA mf) tq) ||| 0 : Int32) = orI (dA mf) (tq + 1) from by first | rw [orI, dA, if_pos c_147] | rw [orI, dA, if_neg c_147]]
      exact ih (tq + 1) (by omega)
    ·
      refine xg_iconst (v := 1) (pc := 150) dX7_now_150 (by decide) ?_
      refine xg_iload_n (pc := 151) dX7_now_151 rfl ?_
      refine xg_ishl (pc := 152) dX7_now_152 ?_
      refine xg_goto (pc := 153) (tgt := 157) dX7_now_153 (by decide) ?_
      refine xg_ior (pc := 157) dX7_now_157 ?_
      refine xg_istore_n (pc := 158) (ls' := [some (.ref 62), some (.int w), some (.int ((orI (dA mf) tq) ||| (1 <<< ((nI tq) &&& 31)))), some (.int (nI tq))]) dX7_now_158 (by decide) rfl ?_
      refine xg_iinc (pc := 159) (y := nI (tq + 1)) (ls' := [some (.ref 62), some (.int w), some (.int ((orI (dA mf) tq) ||| (1 <<< ((nI tq) &&& 31)))), some (.int (nI (tq + 1)))]) dX7_now_159 rfl (xinc _) (by decide) rfl ?_
      refine xg_goto (pc := 162) (tgt := 130) dX7_now_162 (by decide) ?_
      rw [show ((orI (dA mf) tq) ||| (1 <<< ((nI tq) &&& 31)) : Int32) = orI (dA mf) (tq + 1) from by first | rw [orI, dA, if_pos c_147] | rw [orI, dA, if_neg c_147]]
      exact ih (tq + 1) (by omega)
set_option maxRecDepth 100000 in
set_option maxHeartbeats 4000000 in
theorem ev_X7_now {w : Int32} (ok : okN mf) : xEv X false (d + 4) 0 0 mX7_now [.ref 62, .int w] (hp lk o mf wf q) (RQ lk o q (sp_now mf (sumI (gAR mf) 48) w)) := by
  refine xEv.of (ls := [some (.ref 62), some (.int w), none, none]) mcX7_now.1.2.2.2.2 (Nat.le_of_ble_eq_true rfl) rfl ?_
  refine xg_iconst (v := 0) (pc := 0) dX7_now_0 (by decide) ?_
  refine xg_istore_n (pc := 1) (ls' := [some (.ref 62), some (.int w), some (.int 0), none]) dX7_now_1 (by decide) rfl ?_
  refine xg_iload_n (pc := 2) dX7_now_2 rfl ?_
  by_cases w3_0 : w = 0
  ·
    refine xg_tswI (pc := 3) 0 (tgt := 44) dX7_now_3 (by rw [w3_0]; rfl) (by decide) rfl (by decide) ?_
    refine xg_aload_n (pc := 44) dX7_now_44 rfl ?_
    refine xg_get (pc := 45) dX7_now_45 flX7_9 hp_62 rfl ?_
    refine xg_iconst (v := 0) (pc := 48) dX7_now_48 (by decide) ?_
    refine xg_iald (pc := 49) 0 dX7_now_49 hp_63 rfl (by omega) (by decide) ?_
    exact xg_iret (pc := 50) dX7_now_50 rfl (rqR (j := none) (g := mf) (by unfold sp_now; refine (if_pos (by first | assumption | (simp only [Int32.lt_iff_toInt_lt, Int32.le_iff_toInt_le, Int32.not_lt, Int32.not_le, ← Int32.toInt_inj, Int64.lt_iff_toInt_lt, Int64.le_iff_toInt_le, Int64.not_lt, Int64.not_le, Classical.not_not, Int32.reduceToInt, Int64.reduceToInt] at *; omega) | (simp_all; done))).trans ?_; first | (with_reducible rfl) | (simp only [*, ix_0, ix_1, ix_2, ix_3, ix_4, md]; done) | (simp [*, ix_0, ix_1, ix_2, ix_3, ix_4, md]; done) | rfl | (simp_all [ix_0, ix_1, ix_2, ix_3, ix_4]; done)) eq65.rf)
  by_cases w3_1 : w = 1
  ·
    refine xg_tswI (pc := 3) 1 (tgt := 51) dX7_now_3 (by rw [w3_1]; rfl) (by decide) rfl (by decide) ?_
    refine xg_aload_n (pc := 51) dX7_now_51 rfl ?_
    refine xg_get (pc := 52) dX7_now_52 flX7_9 hp_62 rfl ?_
    refine xg_iconst (v := 0) (pc := 55) dX7_now_55 (by decide) ?_
    refine xg_iald (pc := 56) 0 dX7_now_56 hp_63 rfl (by omega) (by decide) ?_
    refine xg_bipush (v := 24) (pc := 57) dX7_now_57 (by decide) ?_
    refine xg_irem (pc := 59) dX7_now_59 (by decide) ?_
    exact xg_iret (pc := 60) dX7_now_60 rfl (rqR (j := none) (g := mf) (by unfold sp_now; refine (if_neg (by first | assumption | (simp only [Int32.lt_iff_toInt_lt, Int32.le_iff_toInt_le, Int32.not_lt, Int32.not_le, ← Int32.toInt_inj, Int64.lt_iff_toInt_lt, Int64.le_iff_toInt_le, Int64.not_lt, Int64.not_le, Classical.not_not, Int32.reduceToInt, Int64.reduceToInt] at *; omega) | (simp_all; done))).trans ?_; refine (if_pos (by first | assumption | (simp only [Int32.lt_iff_toInt_lt, Int32.le_iff_toInt_le, Int32.not_lt, Int32.not_le, ← Int32.toInt_inj, Int64.lt_iff_toInt_lt, Int64.le_iff_toInt_le, Int64.not_lt, Int64.not_le, Classical.not_not, Int32.reduceToInt, Int64.reduceToInt] at *; omega) | (simp_all; done))).trans ?_; first | (with_reducible rfl) | (simp only [*, ix_0, ix_1, ix_2, ix_3, ix_4, md]; done) | (simp [*, ix_0, ix_1, ix_2, ix_3, ix_4, md]; done) | rfl | (simp_all [ix_0, ix_1, ix_2, ix_3, ix_4]; done)) eq65.rf)
  by_cases w3_2 : w = 2
  ·
    refine xg_tswI (pc := 3) 2 (tgt := 61) dX7_now_3 (by rw [w3_2]; rfl) (by decide) rfl (by decide) ?_
    refine xg_aload_n (pc := 61) dX7_now_61 rfl ?_
    refine xg_get (pc := 62) dX7_now_62 flX7_9 hp_62 rfl ?_
    refine xg_iconst (v := 1) (pc := 65) dX7_now_65 (by decide) ?_
    refine xg_iald (pc := 66) 1 dX7_now_66 hp_63 rfl (by omega) (by decide) ?_
    exact xg_iret (pc := 67) dX7_now_67 rfl (rqR (j := none) (g := mf) (by unfold sp_now; refine (if_neg (by first | assumption | (simp only [Int32.lt_iff_toInt_lt, Int32.le_iff_toInt_le, Int32.not_lt, Int32.not_le, ← Int32.toInt_inj, Int64.lt_iff_toInt_lt, Int64.le_iff_toInt_le, Int64.not_lt, Int64.not_le, Classical.not_not, Int32.reduceToInt, Int64.reduceToInt] at *; omega) | (simp_all; done))).trans ?_; refine (if_neg (by first | assumption | (simp only [Int32.lt_iff_toInt_lt, Int32.le_iff_toInt_le, Int32.not_lt, Int32.not_le, ← Int32.toInt_inj, Int64.lt_iff_toInt_lt, Int64.le_iff_toInt_le, Int64.not_lt, Int64.not_le, Classical.not_not, Int32.reduceToInt, Int64.reduceToInt] at *; omega) | (simp_all; done))).trans ?_; refine (if_pos (by first | assumption | (simp only [Int32.lt_iff_toInt_lt, Int32.le_iff_toInt_le, Int32.not_lt, Int32.not_le, ← Int32.toInt_inj, Int64.lt_iff_toInt_lt, Int64.le_iff_toInt_le, Int64.not_lt, Int64.not_le, Classical.not_not, Int32.reduceToInt, Int64.reduceToInt] at *; omega) | (simp_all; done))).trans ?_; first | (with_reducible rfl) | (simp only [*, ix_0, ix_1, ix_2, ix_3, ix_4, md]; done) | (simp [*, ix_0, ix_1, ix_2, ix_3, ix_4, md]; done) | rfl | (simp_all [ix_0, ix_1, ix_2, ix_3, ix_4]; done)) eq65.rf)
  by_cases w3_3 : w = 3
  ·
    refine xg_tswI (pc := 3) 3 (tgt := 68) dX7_now_3 (by rw [w3_3]; rfl) (by decide) rfl (by decide) ?_
    refine xg_aload_n (pc := 68) dX7_now_68 rfl ?_
    refine xg_get (pc := 69) dX7_now_69 flX7_9 hp_62 rfl ?_
    refine xg_iconst (v := 2) (pc := 72) dX7_now_72 (by decide) ?_
    refine xg_iald (pc := 73) 2 dX7_now_73 hp_63 rfl (by omega) (by decide) ?_
    exact xg_iret (pc := 74) dX7_now_74 rfl (rqR (j := none) (g := mf) (by unfold sp_now; refine (if_neg (by first | assumption | (simp only [Int32.lt_iff_toInt_lt, Int32.le_iff_toInt_le, Int32.not_lt, Int32.not_le, ← Int32.toInt_inj, Int64.lt_iff_toInt_lt, Int64.le_iff_toInt_le, Int64.not_lt, Int64.not_le, Classical.not_not, Int32.reduceToInt, Int64.reduceToInt] at *; omega) | (simp_all; done))).trans ?_; refine (if_neg (by first | assumption | (simp only [Int32.lt_iff_toInt_lt, Int32.le_iff_toInt_le, Int32.not_lt, Int32.not_le, ← Int32.toInt_inj, Int64.lt_iff_toInt_lt, Int64.le_iff_toInt_le, Int64.not_lt, Int64.not_le, Classical.not_not, Int32.reduceToInt, Int64.reduceToInt] at *; omega) | (simp_all; done))).trans ?_; refine (if_neg (by first | assumption | (simp only [Int32.lt_iff_toInt_lt, Int32.le_iff_toInt_le, Int32.not_lt, Int32.not_le, ← Int32.toInt_inj, Int64.lt_iff_toInt_lt, Int64.le_iff_toInt_le, Int64.not_lt, Int64.not_le, Classical.not_not, Int32.reduceToInt, Int64.reduceToInt] at *; omega) | (simp_all; done))).trans ?_; refine (if_pos (by first | assumption | (simp only [Int32.lt_iff_toInt_lt, Int32.le_iff_toInt_le, Int32.not_lt, Int32.not_le, ← Int32.toInt_inj, Int64.lt_iff_toInt_lt, Int64.le_iff_toInt_le, Int64.not_lt, Int64.not_le, Classical.not_not, Int32.reduceToInt, Int64.reduceToInt] at *; omega) | (simp_all; done))).trans ?_; first | (with_reducible rfl) | (simp only [*, ix_0, ix_1, ix_2, ix_3, ix_4, md]; done) | (simp [*, ix_0, ix_1, ix_2, ix_3, ix_4, md]; done) | rfl | (simp_all [ix_0, ix_1, ix_2, ix_3, ix_4]; done)) eq65.rf)
  by_cases w3_4 : w = 4
  ·
    refine xg_tswI (pc := 3) 4 (tgt := 75) dX7_now_3 (by rw [w3_4]; rfl) (by decide) rfl (by decide) ?_
    refine xg_iconst (v := 0) (pc := 75) dX7_now_75 (by decide) ?_
    refine xg_istore_n (pc := 76) (ls' := [some (.ref 62), some (.int w), some (.int 0), some (.int 0)]) dX7_now_76 (by decide) rfl ?_
    refine xg_mono (fun v h' q => ?_) (lp_now4 ok (nT mf) 0 (by omega))
    rw [q.1, q.2]
    exact rqR (j := none) (g := mf) (by unfold sp_now; refine (if_neg (by first | assumption | (simp only [Int32.lt_iff_toInt_lt, Int32.le_iff_toInt_le, Int32.not_lt, Int32.not_le, ← Int32.toInt_inj, Int64.lt_iff_toInt_lt, Int64.le_iff_toInt_le, Int64.not_lt, Int64.not_le, Classical.not_not, Int32.reduceToInt, Int64.reduceToInt] at *; omega) | (simp_all; done))).trans ?_; refine (if_neg (by first | assumption | (simp only [Int32.lt_iff_toInt_lt, Int32.le_iff_toInt_le, Int32.not_lt, Int32.not_le, ← Int32.toInt_inj, Int64.lt_iff_toInt_lt, Int64.le_iff_toInt_le, Int64.not_lt, Int64.not_le, Classical.not_not, Int32.reduceToInt, Int64.reduceToInt] at *; omega) | (simp_all; done))).trans ?_; refine (if_neg (by first | assumption | (simp only [Int32.lt_iff_toInt_lt, Int32.le_iff_toInt_le, Int32.not_lt, Int32.not_le, ← Int32.toInt_inj, Int64.lt_iff_toInt_lt, Int64.le_iff_toInt_le, Int64.not_lt, Int64.not_le, Classical.not_not, Int32.reduceToInt, Int64.reduceToInt] at *; omega) | (simp_all; done))).trans ?_; refine (if_neg (by first | assumption | (simp only [Int32.lt_iff_toInt_lt, Int32.le_iff_toInt_le, Int32.not_lt, Int32.not_le, ← Int32.toInt_inj, Int64.lt_iff_toInt_lt, Int64.le_iff_toInt_le, Int64.not_lt, Int64.not_le, Classical.not_not, Int32.reduceToInt, Int64.reduceToInt] at *; omega) | (simp_all; done))).trans ?_; refine (if_pos (by first | assumption | (simp only [Int32.lt_iff_toInt_lt, Int32.le_iff_toInt_le, Int32.not_lt, Int32.not_le, ← Int32.toInt_inj, Int64.lt_iff_toInt_lt, Int64.le_iff_toInt_le, Int64.not_lt, Int64.not_le, Classical.not_not, Int32.reduceToInt, Int64.reduceToInt] at *; omega) | (simp_all; done))).trans ?_; first | (with_reducible rfl) | (simp only [*, ix_0, ix_1, ix_2, ix_3, ix_4]; done) | (simp [*, ix_0, ix_1, ix_2, ix_3, ix_4]; done) | rfl | (simp_all [ix_0, ix_1, ix_2, ix_3, ix_4]; done)) eq65.rf
  by_cases w3_5 : w = 5
  ·
    refine xg_tswI (pc := 3) 5 (tgt := 104) dX7_now_3 (by rw [w3_5]; rfl) (by decide) rfl (by decide) ?_
    refine xg_iconst (v := 0) (pc := 104) dX7_now_104 (by decide) ?_
    refine xg_istore_n (pc := 105) (ls' := [some (.ref 62), some (.int w), some (.int 0), some (.int 0)]) dX7_now_105 (by decide) rfl ?_
    refine xg_mono (fun v h' q => ?_) (lp_now5 ok (48) 0 (by omega))
    rw [q.1, q.2]
    exact rqR (j := none) (g := mf) (by unfold sp_now; refine (if_neg (by first | assumption | (simp only [Int32.lt_iff_toInt_lt, Int32.le_iff_toInt_le, Int32.not_lt, Int32.not_le, ← Int32.toInt_inj, Int64.lt_iff_toInt_lt, Int64.le_iff_toInt_le, Int64.not_lt, Int64.not_le, Classical.not_not, Int32.reduceToInt, Int64.reduceToInt] at *; omega) | (simp_all; done))).trans ?_; refine (if_neg (by first | assumption | (simp only [Int32.lt_iff_toInt_lt, Int32.le_iff_toInt_le, Int32.not_lt, Int32.not_le, ← Int32.toInt_inj, Int64.lt_iff_toInt_lt, Int64.le_iff_toInt_le, Int64.not_lt, Int64.not_le, Classical.not_not, Int32.reduceToInt, Int64.reduceToInt] at *; omega) | (simp_all; done))).trans ?_; refine (if_neg (by first | assumption | (simp only [Int32.lt_iff_toInt_lt, Int32.le_iff_toInt_le, Int32.not_lt, Int32.not_le, ← Int32.toInt_inj, Int64.lt_iff_toInt_lt, Int64.le_iff_toInt_le, Int64.not_lt, Int64.not_le, Classical.not_not, Int32.reduceToInt, Int64.reduceToInt] at *; omega) | (simp_all; done))).trans ?_; refine (if_neg (by first | assumption | (simp only [Int32.lt_iff_toInt_lt, Int32.le_iff_toInt_le, Int32.not_lt, Int32.not_le, ← Int32.toInt_inj, Int64.lt_iff_toInt_lt, Int64.le_iff_toInt_le, Int64.not_lt, Int64.not_le, Classical.not_not, Int32.reduceToInt, Int64.reduceToInt] at *; omega) | (simp_all; done))).trans ?_; refine (if_neg (by first | assumption | (simp only [Int32.lt_iff_toInt_lt, Int32.le_iff_toInt_le, Int32.not_lt, Int32.not_le, ← Int32.toInt_inj, Int64.lt_iff_toInt_lt, Int64.le_iff_toInt_le, Int64.not_lt, Int64.not_le, Classical.not_not, Int32.reduceToInt, Int64.reduceToInt] at *; omega) | (simp_all; done))).trans ?_; refine (if_pos (by first | assumption | (simp only [Int32.lt_iff_toInt_lt, Int32.le_iff_toInt_le, Int32.not_lt, Int32.not_le, ← Int32.toInt_inj, Int64.lt_iff_toInt_lt, Int64.le_iff_toInt_le, Int64.not_lt, Int64.not_le, Classical.not_not, Int32.reduceToInt, Int64.reduceToInt] at *; omega) | (simp_all; done))).trans ?_; first | (with_reducible rfl) | (simp only [*, ix_0, ix_1, ix_2, ix_3, ix_4]; done) | (simp [*, ix_0, ix_1, ix_2, ix_3, ix_4]; done) | rfl | (simp_all [ix_0, ix_1, ix_2, ix_3, ix_4]; done)) eq65.rf
  by_cases w3_6 : w = 6
  ·
    refine xg_tswI (pc := 3) 6 (tgt := 128) dX7_now_3 (by rw [w3_6]; rfl) (by decide) rfl (by decide) ?_
    refine xg_iconst (v := 0) (pc := 128) dX7_now_128 (by decide) ?_
    refine xg_istore_n (pc := 129) (ls' := [some (.ref 62), some (.int w), some (.int 0), some (.int 0)]) dX7_now_129 (by decide) rfl ?_
    refine xg_mono (fun v h' q => ?_) (lp_now6 ok (nT mf) 0 (by omega))
    rw [q.1, q.2]
    exact rqR (j := none) (g := mf) (by unfold sp_now; refine (if_neg (by first | assumption | (simp only [Int32.lt_iff_toInt_lt, Int32.le_iff_toInt_le, Int32.not_lt, Int32.not_le, ← Int32.toInt_inj, Int64.lt_iff_toInt_lt, Int64.le_iff_toInt_le, Int64.not_lt, Int64.not_le, Classical.not_not, Int32.reduceToInt, Int64.reduceToInt] at *; omega) | (simp_all; done))).trans ?_; refine (if_neg (by first | assumption | (simp only [Int32.lt_iff_toInt_lt, Int32.le_iff_toInt_le, Int32.not_lt, Int32.not_le, ← Int32.toInt_inj, Int64.lt_iff_toInt_lt, Int64.le_iff_toInt_le, Int64.not_lt, Int64.not_le, Classical.not_not, Int32.reduceToInt, Int64.reduceToInt] at *; omega) | (simp_all; done))).trans ?_; refine (if_neg (by first | assumption | (simp only [Int32.lt_iff_toInt_lt, Int32.le_iff_toInt_le, Int32.not_lt, Int32.not_le, ← Int32.toInt_inj, Int64.lt_iff_toInt_lt, Int64.le_iff_toInt_le, Int64.not_lt, Int64.not_le, Classical.not_not, Int32.reduceToInt, Int64.reduceToInt] at *; omega) | (simp_all; done))).trans ?_; refine (if_neg (by first | assumption | (simp only [Int32.lt_iff_toInt_lt, Int32.le_iff_toInt_le, Int32.not_lt, Int32.not_le, ← Int32.toInt_inj, Int64.lt_iff_toInt_lt, Int64.le_iff_toInt_le, Int64.not_lt, Int64.not_le, Classical.not_not, Int32.reduceToInt, Int64.reduceToInt] at *; omega) | (simp_all; done))).trans ?_; refine (if_neg (by first | assumption | (simp only [Int32.lt_iff_toInt_lt, Int32.le_iff_toInt_le, Int32.not_lt, Int32.not_le, ← Int32.toInt_inj, Int64.lt_iff_toInt_lt, Int64.le_iff_toInt_le, Int64.not_lt, Int64.not_le, Classical.not_not, Int32.reduceToInt, Int64.reduceToInt] at *; omega) | (simp_all; done))).trans ?_; refine (if_neg (by first | assumption | (simp only [Int32.lt_iff_toInt_lt, Int32.le_iff_toInt_le, Int32.not_lt, Int32.not_le, ← Int32.toInt_inj, Int64.lt_iff_toInt_lt, Int64.le_iff_toInt_le, Int64.not_lt, Int64.not_le, Classical.not_not, Int32.reduceToInt, Int64.reduceToInt] at *; omega) | (simp_all; done))).trans ?_; refine (if_pos (by first | assumption | (simp only [Int32.lt_iff_toInt_lt, Int32.le_iff_toInt_le, Int32.not_lt, Int32.not_le, ← Int32.toInt_inj, Int64.lt_iff_toInt_lt, Int64.le_iff_toInt_le, Int64.not_lt, Int64.not_le, Classical.not_not, Int32.reduceToInt, Int64.reduceToInt] at *; omega) | (simp_all; done))).trans ?_; first | (with_reducible rfl) | (simp only [*, ix_0, ix_1, ix_2, ix_3, ix_4]; done) | (simp [*, ix_0, ix_1, ix_2, ix_3, ix_4]; done) | rfl | (simp_all [ix_0, ix_1, ix_2, ix_3, ix_4]; done)) eq65.rf
  refine xg_tswO (pc := 3) (tgt := 167) dX7_now_3 (by have := lv_neT (a := 0) w3_0 (by decide); have := lv_neT (a := 1) w3_1 (by decide); have := lv_neT (a := 2) w3_2 (by decide); have := lv_neT (a := 3) w3_3 (by decide); have := lv_neT (a := 4) w3_4 (by decide); have := lv_neT (a := 5) w3_5 (by decide); have := lv_neT (a := 6) w3_6 (by decide); omega) (by decide) ?_
  refine xg_aload_n (pc := 167) dX7_now_167 rfl ?_
  refine xg_ldc (v := -1000000001) (pc := 168) dX7_now_168 ccX7_42 ?_
  refine xg_cvI (pc := 170) (h1 := hp lk o mf wf (q.1, q.2.1, upd q.2.2.1 0 (q.2.2.1 0 + 1), q.2.2.2.1, q.2.2.2.2.1, q.2.2.2.2.2.1, q.2.2.2.2.2.2.1, q.2.2.2.2.2.2.2.1, q.2.2.2.2.2.2.2.2.1, q.2.2.2.2.2.2.2.2.2.1, q.2.2.2.2.2.2.2.2.2.2.1, q.2.2.2.2.2.2.2.2.2.2.2.1, q.2.2.2.2.2.2.2.2.2.2.2.2.1, q.2.2.2.2.2.2.2.2.2.2.2.2.2.1, q.2.2.2.2.2.2.2.2.2.2.2.2.2.2)) (x := -1000000001) (M' := mX7_finds) dX7_now_170 lkX7_44 mcX7_finds hp_62 rfl (ev_X7_finds (j := 0) (by decide) (by decide)) rfl rfl (Nat.le_of_ble_eq_true rfl) ?_
  exact xg_iret (pc := 173) dX7_now_173 rfl (rqR (j := (some 0)) (g := mf) (by unfold sp_now; refine (if_neg (by first | assumption | (simp only [Int32.lt_iff_toInt_lt, Int32.le_iff_toInt_le, Int32.not_lt, Int32.not_le, ← Int32.toInt_inj, Int64.lt_iff_toInt_lt, Int64.le_iff_toInt_le, Int64.not_lt, Int64.not_le, Classical.not_not, Int32.reduceToInt, Int64.reduceToInt] at *; omega) | (simp_all; done))).trans ?_; refine (if_neg (by first | assumption | (simp only [Int32.lt_iff_toInt_lt, Int32.le_iff_toInt_le, Int32.not_lt, Int32.not_le, ← Int32.toInt_inj, Int64.lt_iff_toInt_lt, Int64.le_iff_toInt_le, Int64.not_lt, Int64.not_le, Classical.not_not, Int32.reduceToInt, Int64.reduceToInt] at *; omega) | (simp_all; done))).trans ?_; refine (if_neg (by first | assumption | (simp only [Int32.lt_iff_toInt_lt, Int32.le_iff_toInt_le, Int32.not_lt, Int32.not_le, ← Int32.toInt_inj, Int64.lt_iff_toInt_lt, Int64.le_iff_toInt_le, Int64.not_lt, Int64.not_le, Classical.not_not, Int32.reduceToInt, Int64.reduceToInt] at *; omega) | (simp_all; done))).trans ?_; refine (if_neg (by first | assumption | (simp only [Int32.lt_iff_toInt_lt, Int32.le_iff_toInt_le, Int32.not_lt, Int32.not_le, ← Int32.toInt_inj, Int64.lt_iff_toInt_lt, Int64.le_iff_toInt_le, Int64.not_lt, Int64.not_le, Classical.not_not, Int32.reduceToInt, Int64.reduceToInt] at *; omega) | (simp_all; done))).trans ?_; refine (if_neg (by first | assumption | (simp only [Int32.lt_iff_toInt_lt, Int32.le_iff_toInt_le, Int32.not_lt, Int32.not_le, ← Int32.toInt_inj, Int64.lt_iff_toInt_lt, Int64.le_iff_toInt_le, Int64.not_lt, Int64.not_le, Classical.not_not, Int32.reduceToInt, Int64.reduceToInt] at *; omega) | (simp_all; done))).trans ?_; refine (if_neg (by first | assumption | (simp only [Int32.lt_iff_toInt_lt, Int32.le_iff_toInt_le, Int32.not_lt, Int32.not_le, ← Int32.toInt_inj, Int64.lt_iff_toInt_lt, Int64.le_iff_toInt_le, Int64.not_lt, Int64.not_le, Classical.not_not, Int32.reduceToInt, Int64.reduceToInt] at *; omega) | (simp_all; done))).trans ?_; refine (if_neg (by first | assumption | (simp only [Int32.lt_iff_toInt_lt, Int32.le_iff_toInt_le, Int32.not_lt, Int32.not_le, ← Int32.toInt_inj, Int64.lt_iff_toInt_lt, Int64.le_iff_toInt_le, Int64.not_lt, Int64.not_le, Classical.not_not, Int32.reduceToInt, Int64.reduceToInt] at *; omega) | (simp_all; done))).trans ?_; first | (with_reducible rfl) | (simp only [*, ix_0, ix_1, ix_2, ix_3, ix_4, md]; done) | (simp [*, ix_0, ix_1, ix_2, ix_3, ix_4, md]; done) | rfl | (simp_all [ix_0, ix_1, ix_2, ix_3, ix_4]; done)) eq65.rf)
end
