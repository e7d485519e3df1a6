section
variable {X : xS} {d : Nat} {lk : Nat → Nat → Int32} {o : xO} {mf wf : Nat → Int32} {q : xQ}
set_option maxRecDepth 100000 in
theorem ev_X7_isSheet {s : Int32} : xDv X false (d + 1) mX7_isSheet [.int s] (hp lk o mf wf q) [.int (if 0 ≤ s ∧ s ≤ 3 then 1 else 0)] (hp lk o mf wf q) := by
  refine xDv.of (ls := [some (.int s)]) mcX7_isSheet.1.2.2.2.2 (Nat.le_of_ble_eq_true rfl) rfl ?_
  refine xg_iload_n (pc := 0) dX7_isSheet_0 rfl ?_
  refine xg_i2l (pc := 1) dX7_isSheet_1 ?_
  refine xg_iconst (v := 0) (pc := 2) dX7_isSheet_2 (by decide) ?_
  refine xg_iconst (v := 3) (pc := 3) dX7_isSheet_3 (by decide) ?_
  refine xg_csI (pc := 4) (h1 := hp lk o mf wf q) (x := if 0 ≤ s ∧ s ≤ 3 then 1 else 0) (M' := mX7_in) dX7_isSheet_4 lkX7_48 mcX7_in (ev_in) rfl rfl (Nat.le_of_ble_eq_true rfl) ?_
  exact xg_zret (pc := 7) (ty := .boolean) dX7_isSheet_7 rfl (by split <;> rfl) (⟨by rfl, rfl⟩)
set_option maxRecDepth 100000 in
theorem ev_X7_cutTo {b : Int32} {v : Int64} : xDv X false (d + 0) mX7_cutTo [.int b, .long v] (hp lk o mf wf q) [.long (cut b v)] (hp lk o mf wf q) := by
  refine xDv.of (ls := [some (.int b), some (.long v), none]) mcX7_cutTo.1.2.2.2.2 (Nat.le_of_ble_eq_true rfl) rfl ?_
  refine xg_iload_n (pc := 0) dX7_cutTo_0 rfl ?_
  refine xg_bipush (v := 8) (pc := 1) dX7_cutTo_1 (by decide) ?_
  refine xg_icmp_ne (pc := 3) (tgt := 13) dX7_cutTo_3 (by decide) (fun c_3 => ?_) (fun c_3 => ?_)
  ·
    refine xg_iload_n (pc := 13) dX7_cutTo_13 rfl ?_
    refine xg_bipush (v := 16) (pc := 14) dX7_cutTo_14 (by decide) ?_
    refine xg_icmp_ne (pc := 16) (tgt := 26) dX7_cutTo_16 (by decide) (fun c_16 => ?_) (fun c_16 => ?_)
    ·
      refine xg_lload_n (pc := 26) dX7_cutTo_26 rfl ?_
      exact xg_lret (pc := 27) dX7_cutTo_27 rfl (⟨by unfold cut; first | rw [if_pos c_3] | rw [if_neg c_3, if_pos c_16] | rw [if_neg c_3, if_neg c_16], rfl⟩)
    ·
      refine xg_lload_n (pc := 19) dX7_cutTo_19 rfl ?_
      refine xg_l2i (pc := 20) dX7_cutTo_20 ?_
      refine xg_i2s (pc := 21) dX7_cutTo_21 ?_
      refine xg_i2l (pc := 22) dX7_cutTo_22 ?_
      refine xg_goto (pc := 23) (tgt := 27) dX7_cutTo_23 (by decide) ?_
      exact xg_lret (pc := 27) dX7_cutTo_27 rfl (⟨by unfold cut; first | rw [if_pos c_3] | rw [if_neg c_3, if_pos c_16] | rw [if_neg c_3, if_neg c_16], rfl⟩)
  ·
    refine xg_lload_n (pc := 6) dX7_cutTo_6 rfl ?_
    refine xg_l2i (pc := 7) dX7_cutTo_7 ?_
    refine xg_i2b (pc := 8) dX7_cutTo_8 ?_
    refine xg_i2l (pc := 9) dX7_cutTo_9 ?_
    refine xg_goto (pc := 10) (tgt := 27) dX7_cutTo_10 (by decide) ?_
    exact xg_lret (pc := 27) dX7_cutTo_27 rfl (⟨by unfold cut; first | rw [if_pos c_3] | rw [if_neg c_3, if_pos c_16] | rw [if_neg c_3, if_neg c_16], rfl⟩)
set_option maxRecDepth 100000 in
theorem lp_X7_sheet {sn : Nat} {b n v : Int32} (hsn : sn ≤ 3) (hv : q.2.2.2.2.2.2.2.2.2.2.2.2.2.1 sn = v) : ∀ (k tq : Nat), tq + k = 40 → xGo X false (d + 2) 0 0 mX7_sheet 85 [some (.ref 62), some (.int (nI sn)), some (.int b), some (.int n), some (.int (nI tq))] [] (hp lk o mf wf (q.1, q.2.1, q.2.2.1, q.2.2.2.1, q.2.2.2.2.1, q.2.2.2.2.2.1, q.2.2.2.2.2.2.1, q.2.2.2.2.2.2.2.1, q.2.2.2.2.2.2.2.2.1, q.2.2.2.2.2.2.2.2.2.1, q.2.2.2.2.2.2.2.2.2.2.1, q.2.2.2.2.2.2.2.2.2.2.2.1, q.2.2.2.2.2.2.2.2.2.2.2.2.1, q.2.2.2.2.2.2.2.2.2.2.2.2.2.1, zrQ (40 * sn) tq q.2.2.2.2.2.2.2.2.2.2.2.2.2.2)) (RP lk o (.int v, qS q (qB q) (qZ q) (zrQ (40 * sn) 40 (qC q)), mf)) := by
  intro k
  induction k with
  | zero =>
    intro tq ht
    have etq : tq = 40 := by omega
    subst etq
    refine xg_iload (pc := 85) dX7_sheet_85 rfl ?_
    refine xg_bipush (v := 40) (pc := 87) dX7_sheet_87 (by decide) ?_
    refine xg_icmp_ge (pc := 89) (tgt := 111) dX7_sheet_89 (by decide) (fun c_89 => ?_) (fun c_89 => absurd c_89 (by decide))
    refine xg_aload_n (pc := 111) dX7_sheet_111 rfl ?_
    refine xg_get (pc := 112) dX7_sheet_112 flX7_35 hp_62 rfl ?_
    refine xg_iload_n (pc := 115) dX7_sheet_115 rfl ?_
    refine xg_iald (pc := 116) sn dX7_sheet_116 hp_71 rfl (by omega) (by decide) ?_
    refine xg_eq hv ?_
    exact xg_iret (pc := 117) dX7_sheet_117 rfl (rpR rfl eq65.rf)
  | succ k ih =>
    intro tq ht
    refine xg_iload (pc := 85) dX7_sheet_85 rfl ?_
    refine xg_bipush (v := 40) (pc := 87) dX7_sheet_87 (by decide) ?_
    refine xg_icmp_ge (pc := 89) (tgt := 111) dX7_sheet_89 (by decide) (fun c_89 => absurd c_89 (nI_ge (b := 40) (by omega) (by omega))) (fun c_89 => ?_)
    refine xg_aload_n (pc := 92) dX7_sheet_92 rfl ?_
    refine xg_get (pc := 93) dX7_sheet_93 flX7_38 hp_62 rfl ?_
    refine xg_bipush (v := 40) (pc := 96) dX7_sheet_96 (by decide) ?_
    refine xg_iload_n (pc := 98) dX7_sheet_98 rfl ?_
    refine xg_imul (pc := 99) dX7_sheet_99 ?_
    refine xg_iload (pc := 100) dX7_sheet_100 rfl ?_
    refine xg_iadd (pc := 102) dX7_sheet_102 ?_
    refine xg_lconst (v := 0) (pc := 103) dX7_sheet_103 (by decide) ?_
    refine xg_last (pc := 104) (h' := hp lk o mf wf (q.1, q.2.1, q.2.2.1, q.2.2.2.1, q.2.2.2.2.1, q.2.2.2.2.2.1, q.2.2.2.2.2.2.1, q.2.2.2.2.2.2.2.1, q.2.2.2.2.2.2.2.2.1, q.2.2.2.2.2.2.2.2.2.1, q.2.2.2.2.2.2.2.2.2.2.1, q.2.2.2.2.2.2.2.2.2.2.2.1, q.2.2.2.2.2.2.2.2.2.2.2.2.1, q.2.2.2.2.2.2.2.2.2.2.2.2.2.1, vp_updL (zrQ (40 * sn) tq q.2.2.2.2.2.2.2.2.2.2.2.2.2.2) (40 * sn + tq) 0)) (40 * sn + tq) dX7_sheet_104 hp_72 (by simp only [xlit, nI_add, pk_mul]) (by omega) (by decide) hs_ce ?_
    refine xg_iinc (pc := 105) (y := nI (tq + 1)) (ls' := [some (.ref 62), some (.int (nI sn)), some (.int b), some (.int n), some (.int (nI (tq + 1)))]) dX7_sheet_105 rfl (xinc _) (by decide) rfl ?_
    refine xg_goto (pc := 108) (tgt := 85) dX7_sheet_108 (by decide) ?_
    rw [show vp_updL (zrQ (40 * sn) tq q.2.2.2.2.2.2.2.2.2.2.2.2.2.2) (40 * sn + tq) 0 = zrQ (40 * sn) (tq + 1) q.2.2.2.2.2.2.2.2.2.2.2.2.2.2 from zrQ_s]
    exact ih (tq + 1) (by omega)
set_option maxRecDepth 100000 in
set_option maxHeartbeats 4000000 in
theorem ev_X7_sheet {s b n : Int32}  : xEv X false (d + 2) 0 0 mX7_sheet [.ref 62, .int s, .int b, .int n] (hp lk o mf wf q) (RP lk o (r_sheet q mf s b n)) := by
  refine xEv.of (ls := [some (.ref 62), some (.int s), some (.int b), some (.int n), none]) mcX7_sheet.1.2.2.2.2 (Nat.le_of_ble_eq_true rfl) rfl ?_
  refine xg_iload_n (pc := 0) dX7_sheet_0 rfl ?_
  refine xg_csI (pc := 1) (h1 := hp lk o mf wf q) (x := if 0 ≤ s ∧ s ≤ 3 then 1 else 0) (M' := mX7_isSheet) dX7_sheet_1 lkX7_227 mcX7_isSheet (ev_X7_isSheet) rfl rfl (Nat.le_of_ble_eq_true rfl) ?_
  refine xg_bz (pc := 4) (tgt := 29) dX7_sheet_4 (by decide) (fun c_4 => ?_) (fun c_4 => ?_)
  ·
    refine xg_aload_n (pc := 29) dX7_sheet_29 rfl ?_
    refine xg_ldc (v := -1000000001) (pc := 30) dX7_sheet_30 ccX7_42 ?_
    refine xg_cvI (pc := 32) (h1 := hp lk o mf wf (q.1, q.2.1, upd q.2.2.1 0 (q.2.2.1 0 + 1), q.2.2.2.1, q.2.2.2.2.1, q.2.2.2.2.2.1, q.2.2.2.2.2.2.1, q.2.2.2.2.2.2.2.1, q.2.2.2.2.2.2.2.2.1, q.2.2.2.2.2.2.2.2.2.1, q.2.2.2.2.2.2.2.2.2.2.1, q.2.2.2.2.2.2.2.2.2.2.2.1, q.2.2.2.2.2.2.2.2.2.2.2.2.1, q.2.2.2.2.2.2.2.2.2.2.2.2.2.1, q.2.2.2.2.2.2.2.2.2.2.2.2.2.2)) (x := -1000000001) (M' := mX7_finds) dX7_sheet_32 lkX7_44 mcX7_finds hp_62 rfl (ev_X7_finds (j := 0) (by decide) (by decide)) rfl rfl (Nat.le_of_ble_eq_true rfl) ?_
    exact xg_iret (pc := 35) dX7_sheet_35 rfl (rpR (by exact if_neg (fun q => c_4 q.1)) eq65.rf)
  ·
    refine xg_iload_n (pc := 7) dX7_sheet_7 rfl ?_
    refine xg_if_eq (pc := 8) (tgt := 36) dX7_sheet_8 (by decide) (fun c_8 => ?_) (fun c_8 => ?_)
    ·
      refine xg_iload_n (pc := 36) dX7_sheet_36 rfl ?_
      refine xg_if_ge (pc := 37) (tgt := 47) dX7_sheet_37 (by decide) (fun c_37 => ?_) (fun c_37 => ?_)
      ·
        refine xg_iload_n (pc := 47) dX7_sheet_47 rfl ?_
        refine xg_bipush (v := 40) (pc := 48) dX7_sheet_48 (by decide) ?_
        refine xg_icmp_le (pc := 50) (tgt := 60) dX7_sheet_50 (by decide) (fun c_50 => ?_) (fun c_50 => ?_)
        ·
          obtain ⟨sn, hsn, rfl⟩ := sheet_n c_4
          have esn : ix (nI sn) = sn := nI_clamp (by omega)
          refine xg_aload_n (pc := 60) dX7_sheet_60 rfl ?_
          refine xg_get (pc := 61) dX7_sheet_61 flX7_32 hp_62 rfl ?_
          refine xg_iload_n (pc := 64) dX7_sheet_64 rfl ?_
          refine xg_iload_n (pc := 65) dX7_sheet_65 rfl ?_
          refine xg_iast (pc := 66) (h' := hp lk o mf wf (q.1, q.2.1, q.2.2.1, q.2.2.2.1, q.2.2.2.2.1, q.2.2.2.2.2.1, q.2.2.2.2.2.2.1, q.2.2.2.2.2.2.2.1, q.2.2.2.2.2.2.2.2.1, q.2.2.2.2.2.2.2.2.2.1, q.2.2.2.2.2.2.2.2.2.2.1, q.2.2.2.2.2.2.2.2.2.2.2.1, upd q.2.2.2.2.2.2.2.2.2.2.2.2.1 sn b, q.2.2.2.2.2.2.2.2.2.2.2.2.2.1, q.2.2.2.2.2.2.2.2.2.2.2.2.2.2)) sn dX7_sheet_66 hp_70 rfl (by omega) (by decide) hs_bo ?_
          refine xg_aload_n (pc := 67) dX7_sheet_67 rfl ?_
          refine xg_get (pc := 68) dX7_sheet_68 flX7_35 hp_62 rfl ?_
          refine xg_iload_n (pc := 71) dX7_sheet_71 rfl ?_
          refine xg_iload_n (pc := 72) dX7_sheet_72 rfl ?_
          refine xg_if_ne (pc := 73) (tgt := 80) dX7_sheet_73 (by decide) (fun c_73 => ?_) (fun c_73 => ?_)
          ·
            refine xg_iload_n (pc := 80) dX7_sheet_80 rfl ?_
            refine xg_iast (pc := 81) (h' := hp lk o mf wf (q.1, q.2.1, q.2.2.1, q.2.2.2.1, q.2.2.2.2.1, q.2.2.2.2.2.1, q.2.2.2.2.2.2.1, q.2.2.2.2.2.2.2.1, q.2.2.2.2.2.2.2.2.1, q.2.2.2.2.2.2.2.2.2.1, q.2.2.2.2.2.2.2.2.2.2.1, q.2.2.2.2.2.2.2.2.2.2.2.1, upd q.2.2.2.2.2.2.2.2.2.2.2.2.1 sn b, upd q.2.2.2.2.2.2.2.2.2.2.2.2.2.1 sn n, q.2.2.2.2.2.2.2.2.2.2.2.2.2.2)) sn dX7_sheet_81 hp_71 rfl (by omega) (by decide) hs_so ?_
            refine xg_iconst (v := 0) (pc := 82) dX7_sheet_82 (by decide) ?_
            refine xg_istore (pc := 83) (ls' := [some (.ref 62), some (.int (nI sn)), some (.int b), some (.int n), some (.int 0)]) dX7_sheet_83 (by decide) rfl ?_
            rw [show r_sheet q mf (nI sn) b n = (.int (n), qS (q.1, q.2.1, q.2.2.1, q.2.2.2.1, q.2.2.2.2.1, q.2.2.2.2.2.1, q.2.2.2.2.2.2.1, q.2.2.2.2.2.2.2.1, q.2.2.2.2.2.2.2.2.1, q.2.2.2.2.2.2.2.2.2.1, q.2.2.2.2.2.2.2.2.2.2.1, q.2.2.2.2.2.2.2.2.2.2.2.1, upd q.2.2.2.2.2.2.2.2.2.2.2.2.1 sn b, upd q.2.2.2.2.2.2.2.2.2.2.2.2.2.1 sn n, q.2.2.2.2.2.2.2.2.2.2.2.2.2.2) (qB (q.1, q.2.1, q.2.2.1, q.2.2.2.1, q.2.2.2.2.1, q.2.2.2.2.2.1, q.2.2.2.2.2.2.1, q.2.2.2.2.2.2.2.1, q.2.2.2.2.2.2.2.2.1, q.2.2.2.2.2.2.2.2.2.1, q.2.2.2.2.2.2.2.2.2.2.1, q.2.2.2.2.2.2.2.2.2.2.2.1, upd q.2.2.2.2.2.2.2.2.2.2.2.2.1 sn b, upd q.2.2.2.2.2.2.2.2.2.2.2.2.2.1 sn n, q.2.2.2.2.2.2.2.2.2.2.2.2.2.2)) (qZ (q.1, q.2.1, q.2.2.1, q.2.2.2.1, q.2.2.2.2.1, q.2.2.2.2.2.1, q.2.2.2.2.2.2.1, q.2.2.2.2.2.2.2.1, q.2.2.2.2.2.2.2.2.1, q.2.2.2.2.2.2.2.2.2.1, q.2.2.2.2.2.2.2.2.2.2.1, q.2.2.2.2.2.2.2.2.2.2.2.1, upd q.2.2.2.2.2.2.2.2.2.2.2.2.1 sn b, upd q.2.2.2.2.2.2.2.2.2.2.2.2.2.1 sn n, q.2.2.2.2.2.2.2.2.2.2.2.2.2.2)) (zrQ (40 * sn) 40 (qC (q.1, q.2.1, q.2.2.1, q.2.2.2.1, q.2.2.2.2.1, q.2.2.2.2.2.1, q.2.2.2.2.2.2.1, q.2.2.2.2.2.2.2.1, q.2.2.2.2.2.2.2.2.1, q.2.2.2.2.2.2.2.2.2.1, q.2.2.2.2.2.2.2.2.2.2.1, q.2.2.2.2.2.2.2.2.2.2.2.1, upd q.2.2.2.2.2.2.2.2.2.2.2.2.1 sn b, upd q.2.2.2.2.2.2.2.2.2.2.2.2.2.1 sn n, q.2.2.2.2.2.2.2.2.2.2.2.2.2.2))), mf) from by unfold r_sheet; refine (if_pos ⟨c_4, by first | exact Or.inl c_8 | exact Or.inr (Or.inl c_14) | exact Or.inr (Or.inr (Or.inl c_20)) | exact Or.inr (Or.inr (Or.inr c_26))⟩).trans ((if_neg (Int32.not_lt.mpr c_37)).trans ((if_pos c_50).trans ?_)); rw [esn, if_neg c_73]; rfl]
            have z := lp_X7_sheet (X := X) (d := d) (lk := lk) (o := o) (mf := mf) (wf := wf) (q := (q.1, q.2.1, q.2.2.1, q.2.2.2.1, q.2.2.2.2.1, q.2.2.2.2.2.1, q.2.2.2.2.2.2.1, q.2.2.2.2.2.2.2.1, q.2.2.2.2.2.2.2.2.1, q.2.2.2.2.2.2.2.2.2.1, q.2.2.2.2.2.2.2.2.2.2.1, q.2.2.2.2.2.2.2.2.2.2.2.1, upd q.2.2.2.2.2.2.2.2.2.2.2.2.1 sn b, upd q.2.2.2.2.2.2.2.2.2.2.2.2.2.1 sn n, q.2.2.2.2.2.2.2.2.2.2.2.2.2.2)) (b := b) (n := n) (v := n) hsn pk_us 40 0 rfl
            rw [zrQ_0] at z
            exact z
          ·
            refine xg_iconst (v := 0) (pc := 76) dX7_sheet_76 (by decide) ?_
            refine xg_goto (pc := 77) (tgt := 81) dX7_sheet_77 (by decide) ?_
            refine xg_iast (pc := 81) (h' := hp lk o mf wf (q.1, q.2.1, q.2.2.1, q.2.2.2.1, q.2.2.2.2.1, q.2.2.2.2.2.1, q.2.2.2.2.2.2.1, q.2.2.2.2.2.2.2.1, q.2.2.2.2.2.2.2.2.1, q.2.2.2.2.2.2.2.2.2.1, q.2.2.2.2.2.2.2.2.2.2.1, q.2.2.2.2.2.2.2.2.2.2.2.1, upd q.2.2.2.2.2.2.2.2.2.2.2.2.1 sn b, upd q.2.2.2.2.2.2.2.2.2.2.2.2.2.1 sn 0, q.2.2.2.2.2.2.2.2.2.2.2.2.2.2)) sn dX7_sheet_81 hp_71 rfl (by omega) (by decide) hs_so ?_
            refine xg_iconst (v := 0) (pc := 82) dX7_sheet_82 (by decide) ?_
            refine xg_istore (pc := 83) (ls' := [some (.ref 62), some (.int (nI sn)), some (.int b), some (.int n), some (.int 0)]) dX7_sheet_83 (by decide) rfl ?_
            rw [show r_sheet q mf (nI sn) b n = (.int (0), qS (q.1, q.2.1, q.2.2.1, q.2.2.2.1, q.2.2.2.2.1, q.2.2.2.2.2.1, q.2.2.2.2.2.2.1, q.2.2.2.2.2.2.2.1, q.2.2.2.2.2.2.2.2.1, q.2.2.2.2.2.2.2.2.2.1, q.2.2.2.2.2.2.2.2.2.2.1, q.2.2.2.2.2.2.2.2.2.2.2.1, upd q.2.2.2.2.2.2.2.2.2.2.2.2.1 sn b, upd q.2.2.2.2.2.2.2.2.2.2.2.2.2.1 sn 0, q.2.2.2.2.2.2.2.2.2.2.2.2.2.2) (qB (q.1, q.2.1, q.2.2.1, q.2.2.2.1, q.2.2.2.2.1, q.2.2.2.2.2.1, q.2.2.2.2.2.2.1, q.2.2.2.2.2.2.2.1, q.2.2.2.2.2.2.2.2.1, q.2.2.2.2.2.2.2.2.2.1, q.2.2.2.2.2.2.2.2.2.2.1, q.2.2.2.2.2.2.2.2.2.2.2.1, upd q.2.2.2.2.2.2.2.2.2.2.2.2.1 sn b, upd q.2.2.2.2.2.2.2.2.2.2.2.2.2.1 sn 0, q.2.2.2.2.2.2.2.2.2.2.2.2.2.2)) (qZ (q.1, q.2.1, q.2.2.1, q.2.2.2.1, q.2.2.2.2.1, q.2.2.2.2.2.1, q.2.2.2.2.2.2.1, q.2.2.2.2.2.2.2.1, q.2.2.2.2.2.2.2.2.1, q.2.2.2.2.2.2.2.2.2.1, q.2.2.2.2.2.2.2.2.2.2.1, q.2.2.2.2.2.2.2.2.2.2.2.1, upd q.2.2.2.2.2.2.2.2.2.2.2.2.1 sn b, upd q.2.2.2.2.2.2.2.2.2.2.2.2.2.1 sn 0, q.2.2.2.2.2.2.2.2.2.2.2.2.2.2)) (zrQ (40 * sn) 40 (qC (q.1, q.2.1, q.2.2.1, q.2.2.2.1, q.2.2.2.2.1, q.2.2.2.2.2.1, q.2.2.2.2.2.2.1, q.2.2.2.2.2.2.2.1, q.2.2.2.2.2.2.2.2.1, q.2.2.2.2.2.2.2.2.2.1, q.2.2.2.2.2.2.2.2.2.2.1, q.2.2.2.2.2.2.2.2.2.2.2.1, upd q.2.2.2.2.2.2.2.2.2.2.2.2.1 sn b, upd q.2.2.2.2.2.2.2.2.2.2.2.2.2.1 sn 0, q.2.2.2.2.2.2.2.2.2.2.2.2.2.2))), mf) from by unfold r_sheet; refine (if_pos ⟨c_4, by first | exact Or.inl c_8 | exact Or.inr (Or.inl c_14) | exact Or.inr (Or.inr (Or.inl c_20)) | exact Or.inr (Or.inr (Or.inr c_26))⟩).trans ((if_neg (Int32.not_lt.mpr c_37)).trans ((if_pos c_50).trans ?_)); rw [esn, if_pos c_73]; rfl]
            have z := lp_X7_sheet (X := X) (d := d) (lk := lk) (o := o) (mf := mf) (wf := wf) (q := (q.1, q.2.1, q.2.2.1, q.2.2.2.1, q.2.2.2.2.1, q.2.2.2.2.2.1, q.2.2.2.2.2.2.1, q.2.2.2.2.2.2.2.1, q.2.2.2.2.2.2.2.2.1, q.2.2.2.2.2.2.2.2.2.1, q.2.2.2.2.2.2.2.2.2.2.1, q.2.2.2.2.2.2.2.2.2.2.2.1, upd q.2.2.2.2.2.2.2.2.2.2.2.2.1 sn b, upd q.2.2.2.2.2.2.2.2.2.2.2.2.2.1 sn 0, q.2.2.2.2.2.2.2.2.2.2.2.2.2.2)) (b := b) (n := n) (v := 0) hsn pk_us 40 0 rfl
            rw [zrQ_0] at z
            exact z
        ·
          refine xg_aload_n (pc := 53) dX7_sheet_53 rfl ?_
          refine xg_ldc (v := -1000000001) (pc := 54) dX7_sheet_54 ccX7_42 ?_
          refine xg_cvI (pc := 56) (h1 := hp lk o mf wf (q.1, q.2.1, upd q.2.2.1 0 (q.2.2.1 0 + 1), q.2.2.2.1, q.2.2.2.2.1, q.2.2.2.2.2.1, q.2.2.2.2.2.2.1, q.2.2.2.2.2.2.2.1, q.2.2.2.2.2.2.2.2.1, q.2.2.2.2.2.2.2.2.2.1, q.2.2.2.2.2.2.2.2.2.2.1, q.2.2.2.2.2.2.2.2.2.2.2.1, q.2.2.2.2.2.2.2.2.2.2.2.2.1, q.2.2.2.2.2.2.2.2.2.2.2.2.2.1, q.2.2.2.2.2.2.2.2.2.2.2.2.2.2)) (x := -1000000001) (M' := mX7_finds) dX7_sheet_56 lkX7_44 mcX7_finds hp_62 rfl (ev_X7_finds (j := 0) (by decide) (by decide)) rfl rfl (Nat.le_of_ble_eq_true rfl) ?_
          exact xg_iret (pc := 59) dX7_sheet_59 rfl (rpR (by exact (if_pos ⟨c_4, by first | exact Or.inl c_8 | exact Or.inr (Or.inl c_14) | exact Or.inr (Or.inr (Or.inl c_20)) | exact Or.inr (Or.inr (Or.inr c_26))⟩).trans ((if_neg (Int32.not_lt.mpr (Classical.not_not.mp (fun z => z c_37)))).trans (if_neg c_50))) eq65.rf)
      ·
        refine xg_aload_n (pc := 40) dX7_sheet_40 rfl ?_
        refine xg_ldc (v := -1000000007) (pc := 41) dX7_sheet_41 ccX7_230 ?_
        refine xg_cvI (pc := 43) (h1 := hp lk o mf wf (q.1, q.2.1, upd q.2.2.1 6 (q.2.2.1 6 + 1), q.2.2.2.1, q.2.2.2.2.1, q.2.2.2.2.2.1, q.2.2.2.2.2.2.1, q.2.2.2.2.2.2.2.1, q.2.2.2.2.2.2.2.2.1, q.2.2.2.2.2.2.2.2.2.1, q.2.2.2.2.2.2.2.2.2.2.1, q.2.2.2.2.2.2.2.2.2.2.2.1, q.2.2.2.2.2.2.2.2.2.2.2.2.1, q.2.2.2.2.2.2.2.2.2.2.2.2.2.1, q.2.2.2.2.2.2.2.2.2.2.2.2.2.2)) (x := -1000000007) (M' := mX7_finds) dX7_sheet_43 lkX7_44 mcX7_finds hp_62 rfl (ev_X7_finds (j := 6) (by decide) (by decide)) rfl rfl (Nat.le_of_ble_eq_true rfl) ?_
        exact xg_iret (pc := 46) dX7_sheet_46 rfl (rpR (by exact (if_pos ⟨c_4, by first | exact Or.inl c_8 | exact Or.inr (Or.inl c_14) | exact Or.inr (Or.inr (Or.inl c_20)) | exact Or.inr (Or.inr (Or.inr c_26))⟩).trans (if_pos (Int32.not_le.mp c_37))) eq65.rf)
    ·
      refine xg_iload_n (pc := 11) dX7_sheet_11 rfl ?_
      refine xg_bipush (v := 8) (pc := 12) dX7_sheet_12 (by decide) ?_
      refine xg_icmp_eq (pc := 14) (tgt := 36) dX7_sheet_14 (by decide) (fun c_14 => ?_) (fun c_14 => ?_)
      ·
        refine xg_iload_n (pc := 36) dX7_sheet_36 rfl ?_
        refine xg_if_ge (pc := 37) (tgt := 47) dX7_sheet_37 (by decide) (fun c_37 => ?_) (fun c_37 => ?_)
        ·
          refine xg_iload_n (pc := 47) dX7_sheet_47 rfl ?_
          refine xg_bipush (v := 40) (pc := 48) dX7_sheet_48 (by decide) ?_
          refine xg_icmp_le (pc := 50) (tgt := 60) dX7_sheet_50 (by decide) (fun c_50 => ?_) (fun c_50 => ?_)
          ·
            obtain ⟨sn, hsn, rfl⟩ := sheet_n c_4
            have esn : ix (nI sn) = sn := nI_clamp (by omega)
            refine xg_aload_n (pc := 60) dX7_sheet_60 rfl ?_
            refine xg_get (pc := 61) dX7_sheet_61 flX7_32 hp_62 rfl ?_
            refine xg_iload_n (pc := 64) dX7_sheet_64 rfl ?_
            refine xg_iload_n (pc := 65) dX7_sheet_65 rfl ?_
            refine xg_iast (pc := 66) (h' := hp lk o mf wf (q.1, q.2.1, q.2.2.1, q.2.2.2.1, q.2.2.2.2.1, q.2.2.2.2.2.1, q.2.2.2.2.2.2.1, q.2.2.2.2.2.2.2.1, q.2.2.2.2.2.2.2.2.1, q.2.2.2.2.2.2.2.2.2.1, q.2.2.2.2.2.2.2.2.2.2.1, q.2.2.2.2.2.2.2.2.2.2.2.1, upd q.2.2.2.2.2.2.2.2.2.2.2.2.1 sn b, q.2.2.2.2.2.2.2.2.2.2.2.2.2.1, q.2.2.2.2.2.2.2.2.2.2.2.2.2.2)) sn dX7_sheet_66 hp_70 rfl (by omega) (by decide) hs_bo ?_
            refine xg_aload_n (pc := 67) dX7_sheet_67 rfl ?_
            refine xg_get (pc := 68) dX7_sheet_68 flX7_35 hp_62 rfl ?_
            refine xg_iload_n (pc := 71) dX7_sheet_71 rfl ?_
            refine xg_iload_n (pc := 72) dX7_sheet_72 rfl ?_
            refine xg_if_ne (pc := 73) (tgt := 80) dX7_sheet_73 (by decide) (fun c_73 => ?_) (fun c_73 => ?_)
            ·
              refine xg_iload_n (pc := 80) dX7_sheet_80 rfl ?_
              refine xg_iast (pc := 81) (h' := hp lk o mf wf (q.1, q.2.1, q.2.2.1, q.2.2.2.1, q.2.2.2.2.1, q.2.2.2.2.2.1, q.2.2.2.2.2.2.1, q.2.2.2.2.2.2.2.1, q.2.2.2.2.2.2.2.2.1, q.2.2.2.2.2.2.2.2.2.1, q.2.2.2.2.2.2.2.2.2.2.1, q.2.2.2.2.2.2.2.2.2.2.2.1, upd q.2.2.2.2.2.2.2.2.2.2.2.2.1 sn b, upd q.2.2.2.2.2.2.2.2.2.2.2.2.2.1 sn n, q.2.2.2.2.2.2.2.2.2.2.2.2.2.2)) sn dX7_sheet_81 hp_71 rfl (by omega) (by decide) hs_so ?_
              refine xg_iconst (v := 0) (pc := 82) dX7_sheet_82 (by decide) ?_
              refine xg_istore (pc := 83) (ls' := [some (.ref 62), some (.int (nI sn)), some (.int b), some (.int n), some (.int 0)]) dX7_sheet_83 (by decide) rfl ?_
              rw [show r_sheet q mf (nI sn) b n = (.int (n), qS (q.1, q.2.1, q.2.2.1, q.2.2.2.1, q.2.2.2.2.1, q.2.2.2.2.2.1, q.2.2.2.2.2.2.1, q.2.2.2.2.2.2.2.1, q.2.2.2.2.2.2.2.2.1, q.2.2.2.2.2.2.2.2.2.1, q.2.2.2.2.2.2.2.2.2.2.1, q.2.2.2.2.2.2.2.2.2.2.2.1, upd q.2.2.2.2.2.2.2.2.2.2.2.2.1 sn b, upd q.2.2.2.2.2.2.2.2.2.2.2.2.2.1 sn n, q.2.2.2.2.2.2.2.2.2.2.2.2.2.2) (qB (q.1, q.2.1, q.2.2.1, q.2.2.2.1, q.2.2.2.2.1, q.2.2.2.2.2.1, q.2.2.2.2.2.2.1, q.2.2.2.2.2.2.2.1, q.2.2.2.2.2.2.2.2.1, q.2.2.2.2.2.2.2.2.2.1, q.2.2.2.2.2.2.2.2.2.2.1, q.2.2.2.2.2.2.2.2.2.2.2.1, upd q.2.2.2.2.2.2.2.2.2.2.2.2.1 sn b, upd q.2.2.2.2.2.2.2.2.2.2.2.2.2.1 sn n, q.2.2.2.2.2.2.2.2.2.2.2.2.2.2)) (qZ (q.1, q.2.1, q.2.2.1, q.2.2.2.1, q.2.2.2.2.1, q.2.2.2.2.2.1, q.2.2.2.2.2.2.1, q.2.2.2.2.2.2.2.1, q.2.2.2.2.2.2.2.2.1, q.2.2.2.2.2.2.2.2.2.1, q.2.2.2.2.2.2.2.2.2.2.1, q.2.2.2.2.2.2.2.2.2.2.2.1, upd q.2.2.2.2.2.2.2.2.2.2.2.2.1 sn b, upd q.2.2.2.2.2.2.2.2.2.2.2.2.2.1 sn n, q.2.2.2.2.2.2.2.2.2.2.2.2.2.2)) (zrQ (40 * sn) 40 (qC (q.1, q.2.1, q.2.2.1, q.2.2.2.1, q.2.2.2.2.1, q.2.2.2.2.2.1, q.2.2.2.2.2.2.1, q.2.2.2.2.2.2.2.1, q.2.2.2.2.2.2.2.2.1, q.2.2.2.2.2.2.2.2.2.1, q.2.2.2.2.2.2.2.2.2.2.1, q.2.2.2.2.2.2.2.2.2.2.2.1, upd q.2.2.2.2.2.2.2.2.2.2.2.2.1 sn b, upd q.2.2.2.2.2.2.2.2.2.2.2.2.2.1 sn n, q.2.2.2.2.2.2.2.2.2.2.2.2.2.2))), mf) from by unfold r_sheet; refine (if_pos ⟨c_4, by first | exact Or.inl c_8 | exact Or.inr (Or.inl c_14) | exact Or.inr (Or.inr (Or.inl c_20)) | exact Or.inr (Or.inr (Or.inr c_26))⟩).trans ((if_neg (Int32.not_lt.mpr c_37)).trans ((if_pos c_50).trans ?_)); rw [esn, if_neg c_73]; rfl]
              have z := lp_X7_sheet (X := X) (d := d) (lk := lk) (o := o) (mf := mf) (wf := wf) (q := (q.1, q.2.1, q.2.2.1, q.2.2.2.1, q.2.2.2.2.1, q.2.2.2.2.2.1, q.2.2.2.2.2.2.1, q.2.2.2.2.2.2.2.1, q.2.2.2.2.2.2.2.2.1, q.2.2.2.2.2.2.2.2.2.1, q.2.2.2.2.2.2.2.2.2.2.1, q.2.2.2.2.2.2.2.2.2.2.2.1, upd q.2.2.2.2.2.2.2.2.2.2.2.2.1 sn b, upd q.2.2.2.2.2.2.2.2.2.2.2.2.2.1 sn n, q.2.2.2.2.2.2.2.2.2.2.2.2.2.2)) (b := b) (n := n) (v := n) hsn pk_us 40 0 rfl
              rw [zrQ_0] at z
              exact z
            ·
              refine xg_iconst (v := 0) (pc := 76) dX7_sheet_76 (by decide) ?_
              refine xg_goto (pc := 77) (tgt := 81) dX7_sheet_77 (by decide) ?_
              refine xg_iast (pc := 81) (h' := hp lk o mf wf (q.1, q.2.1, q.2.2.1, q.2.2.2.1, q.2.2.2.2.1, q.2.2.2.2.2.1, q.2.2.2.2.2.2.1, q.2.2.2.2.2.2.2.1, q.2.2.2.2.2.2.2.2.1, q.2.2.2.2.2.2.2.2.2.1, q.2.2.2.2.2.2.2.2.2.2.1, q.2.2.2.2.2.2.2.2.2.2.2.1, upd q.2.2.2.2.2.2.2.2.2.2.2.2.1 sn b, upd q.2.2.2.2.2.2.2.2.2.2.2.2.2.1 sn 0, q.2.2.2.2.2.2.2.2.2.2.2.2.2.2)) sn dX7_sheet_81 hp_71 rfl (by omega) (by decide) hs_so ?_
              refine xg_iconst (v := 0) (pc := 82) dX7_sheet_82 (by decide) ?_
              refine xg_istore (pc := 83) (ls' := [some (.ref 62), some (.int (nI sn)), some (.int b), some (.int n), some (.int 0)]) dX7_sheet_83 (by decide) rfl ?_
              rw [show r_sheet q mf (nI sn) b n = (.int (0), qS (q.1, q.2.1, q.2.2.1, q.2.2.2.1, q.2.2.2.2.1, q.2.2.2.2.2.1, q.2.2.2.2.2.2.1, q.2.2.2.2.2.2.2.1, q.2.2.2.2.2.2.2.2.1, q.2.2.2.2.2.2.2.2.2.1, q.2.2.2.2.2.2.2.2.2.2.1, q.2.2.2.2.2.2.2.2.2.2.2.1, upd q.2.2.2.2.2.2.2.2.2.2.2.2.1 sn b, upd q.2.2.2.2.2.2.2.2.2.2.2.2.2.1 sn 0, q.2.2.2.2.2.2.2.2.2.2.2.2.2.2) (qB (q.1, q.2.1, q.2.2.1, q.2.2.2.1, q.2.2.2.2.1, q.2.2.2.2.2.1, q.2.2.2.2.2.2.1, q.2.2.2.2.2.2.2.1, q.2.2.2.2.2.2.2.2.1, q.2.2.2.2.2.2.2.2.2.1, q.2.2.2.2.2.2.2.2.2.2.1, q.2.2.2.2.2.2.2.2.2.2.2.1, upd q.2.2.2.2.2.2.2.2.2.2.2.2.1 sn b, upd q.2.2.2.2.2.2.2.2.2.2.2.2.2.1 sn 0, q.2.2.2.2.2.2.2.2.2.2.2.2.2.2)) (qZ (q.1, q.2.1, q.2.2.1, q.2.2.2.1, q.2.2.2.2.1, q.2.2.2.2.2.1, q.2.2.2.2.2.2.1, q.2.2.2.2.2.2.2.1, q.2.2.2.2.2.2.2.2.1, q.2.2.2.2.2.2.2.2.2.1, q.2.2.2.2.2.2.2.2.2.2.1, q.2.2.2.2.2.2.2.2.2.2.2.1, upd q.2.2.2.2.2.2.2.2.2.2.2.2.1 sn b, upd q.2.2.2.2.2.2.2.2.2.2.2.2.2.1 sn 0, q.2.2.2.2.2.2.2.2.2.2.2.2.2.2)) (zrQ (40 * sn) 40 (qC (q.1, q.2.1, q.2.2.1, q.2.2.2.1, q.2.2.2.2.1, q.2.2.2.2.2.1, q.2.2.2.2.2.2.1, q.2.2.2.2.2.2.2.1, q.2.2.2.2.2.2.2.2.1, q.2.2.2.2.2.2.2.2.2.1, q.2.2.2.2.2.2.2.2.2.2.1, q.2.2.2.2.2.2.2.2.2.2.2.1, upd q.2.2.2.2.2.2.2.2.2.2.2.2.1 sn b, upd q.2.2.2.2.2.2.2.2.2.2.2.2.2.1 sn 0, q.2.2.2.2.2.2.2.2.2.2.2.2.2.2))), mf) from by unfold r_sheet; refine (if_pos ⟨c_4, by first | exact Or.inl c_8 | exact Or.inr (Or.inl c_14) | exact Or.inr (Or.inr (Or.inl c_20)) | exact Or.inr (Or.inr (Or.inr c_26))⟩).trans ((if_neg (Int32.not_lt.mpr c_37)).trans ((if_pos c_50).trans ?_)); rw [esn, if_pos c_73]; rfl]
              have z := lp_X7_sheet (X := X) (d := d) (lk := lk) (o := o) (mf := mf) (wf := wf) (q := (q.1, q.2.1, q.2.2.1, q.2.2.2.1, q.2.2.2.2.1, q.2.2.2.2.2.1, q.2.2.2.2.2.2.1, q.2.2.2.2.2.2.2.1, q.2.2.2.2.2.2.2.2.1, q.2.2.2.2.2.2.2.2.2.1, q.2.2.2.2.2.2.2.2.2.2.1, q.2.2.2.2.2.2.2.2.2.2.2.1, upd q.2.2.2.2.2.2.2.2.2.2.2.2.1 sn b, upd q.2.2.2.2.2.2.2.2.2.2.2.2.2.1 sn 0, q.2.2.2.2.2.2.2.2.2.2.2.2.2.2)) (b := b) (n := n) (v := 0) hsn pk_us 40 0 rfl
              rw [zrQ_0] at z
              exact z
          ·
            refine xg_aload_n (pc := 53) dX7_sheet_53 rfl ?_
            refine xg_ldc (v := -1000000001) (pc := 54) dX7_sheet_54 ccX7_42 ?_
            refine xg_cvI (pc := 56) (h1 := hp lk o mf wf (q.1, q.2.1, upd q.2.2.1 0 (q.2.2.1 0 + 1), q.2.2.2.1, q.2.2.2.2.1, q.2.2.2.2.2.1, q.2.2.2.2.2.2.1, q.2.2.2.2.2.2.2.1, q.2.2.2.2.2.2.2.2.1, q.2.2.2.2.2.2.2.2.2.1, q.2.2.2.2.2.2.2.2.2.2.1, q.2.2.2.2.2.2.2.2.2.2.2.1, q.2.2.2.2.2.2.2.2.2.2.2.2.1, q.2.2.2.2.2.2.2.2.2.2.2.2.2.1, q.2.2.2.2.2.2.2.2.2.2.2.2.2.2)) (x := -1000000001) (M' := mX7_finds) dX7_sheet_56 lkX7_44 mcX7_finds hp_62 rfl (ev_X7_finds (j := 0) (by decide) (by decide)) rfl rfl (Nat.le_of_ble_eq_true rfl) ?_
            exact xg_iret (pc := 59) dX7_sheet_59 rfl (rpR (by exact (if_pos ⟨c_4, by first | exact Or.inl c_8 | exact Or.inr (Or.inl c_14) | exact Or.inr (Or.inr (Or.inl c_20)) | exact Or.inr (Or.inr (Or.inr c_26))⟩).trans ((if_neg (Int32.not_lt.mpr (Classical.not_not.mp (fun z => z c_37)))).trans (if_neg c_50))) eq65.rf)
        ·
          refine xg_aload_n (pc := 40) dX7_sheet_40 rfl ?_
          refine xg_ldc (v := -1000000007) (pc := 41) dX7_sheet_41 ccX7_230 ?_
          refine xg_cvI (pc := 43) (h1 := hp lk o mf wf (q.1, q.2.1, upd q.2.2.1 6 (q.2.2.1 6 + 1), q.2.2.2.1, q.2.2.2.2.1, q.2.2.2.2.2.1, q.2.2.2.2.2.2.1, q.2.2.2.2.2.2.2.1, q.2.2.2.2.2.2.2.2.1, q.2.2.2.2.2.2.2.2.2.1, q.2.2.2.2.2.2.2.2.2.2.1, q.2.2.2.2.2.2.2.2.2.2.2.1, q.2.2.2.2.2.2.2.2.2.2.2.2.1, q.2.2.2.2.2.2.2.2.2.2.2.2.2.1, q.2.2.2.2.2.2.2.2.2.2.2.2.2.2)) (x := -1000000007) (M' := mX7_finds) dX7_sheet_43 lkX7_44 mcX7_finds hp_62 rfl (ev_X7_finds (j := 6) (by decide) (by decide)) rfl rfl (Nat.le_of_ble_eq_true rfl) ?_
          exact xg_iret (pc := 46) dX7_sheet_46 rfl (rpR (by exact (if_pos ⟨c_4, by first | exact Or.inl c_8 | exact Or.inr (Or.inl c_14) | exact Or.inr (Or.inr (Or.inl c_20)) | exact Or.inr (Or.inr (Or.inr c_26))⟩).trans (if_pos (Int32.not_le.mp c_37))) eq65.rf)
      ·
        refine xg_iload_n (pc := 17) dX7_sheet_17 rfl ?_
        refine xg_bipush (v := 16) (pc := 18) dX7_sheet_18 (by decide) ?_
        refine xg_icmp_eq (pc := 20) (tgt := 36) dX7_sheet_20 (by decide) (fun c_20 => ?_) (fun c_20 => ?_)
        ·
          refine xg_iload_n (pc := 36) dX7_sheet_36 rfl ?_
          refine xg_if_ge (pc := 37) (tgt := 47) dX7_sheet_37 (by decide) (fun c_37 => ?_) (fun c_37 => ?_)
          ·
            refine xg_iload_n (pc := 47) dX7_sheet_47 rfl ?_
            refine xg_bipush (v := 40) (pc := 48) dX7_sheet_48 (by decide) ?_
            refine xg_icmp_le (pc := 50) (tgt := 60) dX7_sheet_50 (by decide) (fun c_50 => ?_) (fun c_50 => ?_)
            ·
              obtain ⟨sn, hsn, rfl⟩ := sheet_n c_4
              have esn : ix (nI sn) = sn := nI_clamp (by omega)
              refine xg_aload_n (pc := 60) dX7_sheet_60 rfl ?_
              refine xg_get (pc := 61) dX7_sheet_61 flX7_32 hp_62 rfl ?_
              refine xg_iload_n (pc := 64) dX7_sheet_64 rfl ?_
              refine xg_iload_n (pc := 65) dX7_sheet_65 rfl ?_
              refine xg_iast (pc := 66) (h' := hp lk o mf wf (q.1, q.2.1, q.2.2.1, q.2.2.2.1, q.2.2.2.2.1, q.2.2.2.2.2.1, q.2.2.2.2.2.2.1, q.2.2.2.2.2.2.2.1, q.2.2.2.2.2.2.2.2.1, q.2.2.2.2.2.2.2.2.2.1, q.2.2.2.2.2.2.2.2.2.2.1, q.2.2.2.2.2.2.2.2.2.2.2.1, upd q.2.2.2.2.2.2.2.2.2.2.2.2.1 sn b, q.2.2.2.2.2.2.2.2.2.2.2.2.2.1, q.2.2.2.2.2.2.2.2.2.2.2.2.2.2)) sn dX7_sheet_66 hp_70 rfl (by omega) (by decide) hs_bo ?_
              refine xg_aload_n (pc := 67) dX7_sheet_67 rfl ?_
              refine xg_get (pc := 68) dX7_sheet_68 flX7_35 hp_62 rfl ?_
              refine xg_iload_n (pc := 71) dX7_sheet_71 rfl ?_
              refine xg_iload_n (pc := 72) dX7_sheet_72 rfl ?_
              refine xg_if_ne (pc := 73) (tgt := 80) dX7_sheet_73 (by decide) (fun c_73 => ?_) (fun c_73 => ?_)
              ·
                refine xg_iload_n (pc := 80) dX7_sheet_80 rfl ?_
                refine xg_iast (pc := 81) (h' := hp lk o mf wf (q.1, q.2.1, q.2.2.1, q.2.2.2.1, q.2.2.2.2.1, q.2.2.2.2.2.1, q.2.2.2.2.2.2.1, q.2.2.2.2.2.2.2.1, q.2.2.2.2.2.2.2.2.1, q.2.2.2.2.2.2.2.2.2.1, q.2.2.2.2.2.2.2.2.2.2.1, q.2.2.2.2.2.2.2.2.2.2.2.1, upd q.2.2.2.2.2.2.2.2.2.2.2.2.1 sn b, upd q.2.2.2.2.2.2.2.2.2.2.2.2.2.1 sn n, q.2.2.2.2.2.2.2.2.2.2.2.2.2.2)) sn dX7_sheet_81 hp_71 rfl (by omega) (by decide) hs_so ?_
                refine xg_iconst (v := 0) (pc := 82) dX7_sheet_82 (by decide) ?_
                refine xg_istore (pc := 83) (ls' := [some (.ref 62), some (.int (nI sn)), some (.int b), some (.int n), some (.int 0)]) dX7_sheet_83 (by decide) rfl ?_
                rw [show r_sheet q mf (nI sn) b n = (.int (n), qS (q.1, q.2.1, q.2.2.1, q.2.2.2.1, q.2.2.2.2.1, q.2.2.2.2.2.1, q.2.2.2.2.2.2.1, q.2.2.2.2.2.2.2.1, q.2.2.2.2.2.2.2.2.1, q.2.2.2.2.2.2.2.2.2.1, q.2.2.2.2.2.2.2.2.2.2.1, q.2.2.2.2.2.2.2.2.2.2.2.1, upd q.2.2.2.2.2.2.2.2.2.2.2.2.1 sn b, upd q.2.2.2.2.2.2.2.2.2.2.2.2.2.1 sn n, q.2.2.2.2.2.2.2.2.2.2.2.2.2.2) (qB (q.1, q.2.1, q.2.2.1, q.2.2.2.1, q.2.2.2.2.1, q.2.2.2.2.2.1, q.2.2.2.2.2.2.1, q.2.2.2.2.2.2.2.1, q.2.2.2.2.2.2.2.2.1, q.2.2.2.2.2.2.2.2.2.1, q.2.2.2.2.2.2.2.2.2.2.1, q.2.2.2.2.2.2.2.2.2.2.2.1, upd q.2.2.2.2.2.2.2.2.2.2.2.2.1 sn b, upd q.2.2.2.2.2.2.2.2.2.2.2.2.2.1 sn n, q.2.2.2.2.2.2.2.2.2.2.2.2.2.2)) (qZ (q.1, q.2.1, q.2.2.1, q.2.2.2.1, q.2.2.2.2.1, q.2.2.2.2.2.1, q.2.2.2.2.2.2.1, q.2.2.2.2.2.2.2.1, q.2.2.2.2.2.2.2.2.1, q.2.2.2.2.2.2.2.2.2.1, q.2.2.2.2.2.2.2.2.2.2.1, q.2.2.2.2.2.2.2.2.2.2.2.1, upd q.2.2.2.2.2.2.2.2.2.2.2.2.1 sn b, upd q.2.2.2.2.2.2.2.2.2.2.2.2.2.1 sn n, q.2.2.2.2.2.2.2.2.2.2.2.2.2.2)) (zrQ (40 * sn) 40 (qC (q.1, q.2.1, q.2.2.1, q.2.2.2.1, q.2.2.2.2.1, q.2.2.2.2.2.1, q.2.2.2.2.2.2.1, q.2.2.2.2.2.2.2.1, q.2.2.2.2.2.2.2.2.1, q.2.2.2.2.2.2.2.2.2.1, q.2.2.2.2.2.2.2.2.2.2.1, q.2.2.2.2.2.2.2.2.2.2.2.1, upd q.2.2.2.2.2.2.2.2.2.2.2.2.1 sn b, upd q.2.2.2.2.2.2.2.2.2.2.2.2.2.1 sn n, q.2.2.2.2.2.2.2.2.2.2.2.2.2.2))), mf) from by unfold r_sheet; refine (if_pos ⟨c_4, by first | exact Or.inl c_8 | exact Or.inr (Or.inl c_14) | exact Or.inr (Or.inr (Or.inl c_20)) | exact Or.inr (Or.inr (Or.inr c_26))⟩).trans ((if_neg (Int32.not_lt.mpr c_37)).trans ((if_pos c_50).trans ?_)); rw [esn, if_neg c_73]; rfl]
                have z := lp_X7_sheet (X := X) (d := d) (lk := lk) (o := o) (mf := mf) (wf := wf) (q := (q.1, q.2.1, q.2.2.1, q.2.2.2.1, q.2.2.2.2.1, q.2.2.2.2.2.1, q.2.2.2.2.2.2.1, q.2.2.2.2.2.2.2.1, q.2.2.2.2.2.2.2.2.1, q.2.2.2.2.2.2.2.2.2.1, q.2.2.2.2.2.2.2.2.2.2.1, q.2.2.2.2.2.2.2.2.2.2.2.1, upd q.2.2.2.2.2.2.2.2.2.2.2.2.1 sn b, upd q.2.2.2.2.2.2.2.2.2.2.2.2.2.1 sn n, q.2.2.2.2.2.2.2.2.2.2.2.2.2.2)) (b := b) (n := n) (v := n) hsn pk_us 40 0 rfl
                rw [zrQ_0] at z
                exact z
              ·
                refine xg_iconst (v := 0) (pc := 76) dX7_sheet_76 (by decide) ?_
                refine xg_goto (pc := 77) (tgt := 81) dX7_sheet_77 (by decide) ?_
                refine xg_iast (pc := 81) (h' := hp lk o mf wf (q.1, q.2.1, q.2.2.1, q.2.2.2.1, q.2.2.2.2.1, q.2.2.2.2.2.1, q.2.2.2.2.2.2.1, q.2.2.2.2.2.2.2.1, q.2.2.2.2.2.2.2.2.1, q.2.2.2.2.2.2.2.2.2.1, q.2.2.2.2.2.2.2.2.2.2.1, q.2.2.2.2.2.2.2.2.2.2.2.1, upd q.2.2.2.2.2.2.2.2.2.2.2.2.1 sn b, upd q.2.2.2.2.2.2.2.2.2.2.2.2.2.1 sn 0, q.2.2.2.2.2.2.2.2.2.2.2.2.2.2)) sn dX7_sheet_81 hp_71 rfl (by omega) (by decide) hs_so ?_
                refine xg_iconst (v := 0) (pc := 82) dX7_sheet_82 (by decide) ?_
                refine xg_istore (pc := 83) (ls' := [some (.ref 62), some (.int (nI sn)), some (.int b), some (.int n), some (.int 0)]) dX7_sheet_83 (by decide) rfl ?_
                rw [show r_sheet q mf (nI sn) b n = (.int (0), qS (q.1, q.2.1, q.2.2.1, q.2.2.2.1, q.2.2.2.2.1, q.2.2.2.2.2.1, q.2.2.2.2.2.2.1, q.2.2.2.2.2.2.2.1, q.2.2.2.2.2.2.2.2.1, q.2.2.2.2.2.2.2.2.2.1, q.2.2.2.2.2.2.2.2.2.2.1, q.2.2.2.2.2.2.2.2.2.2.2.1, upd q.2.2.2.2.2.2.2.2.2.2.2.2.1 sn b, upd q.2.2.2.2.2.2.2.2.2.2.2.2.2.1 sn 0, q.2.2.2.2.2.2.2.2.2.2.2.2.2.2) (qB (q.1, q.2.1, q.2.2.1, q.2.2.2.1, q.2.2.2.2.1, q.2.2.2.2.2.1, q.2.2.2.2.2.2.1, q.2.2.2.2.2.2.2.1, q.2.2.2.2.2.2.2.2.1, q.2.2.2.2.2.2.2.2.2.1, q.2.2.2.2.2.2.2.2.2.2.1, q.2.2.2.2.2.2.2.2.2.2.2.1, upd q.2.2.2.2.2.2.2.2.2.2.2.2.1 sn b, upd q.2.2.2.2.2.2.2.2.2.2.2.2.2.1 sn 0, q.2.2.2.2.2.2.2.2.2.2.2.2.2.2)) (qZ (q.1, q.2.1, q.2.2.1, q.2.2.2.1, q.2.2.2.2.1, q.2.2.2.2.2.1, q.2.2.2.2.2.2.1, q.2.2.2.2.2.2.2.1, q.2.2.2.2.2.2.2.2.1, q.2.2.2.2.2.2.2.2.2.1, q.2.2.2.2.2.2.2.2.2.2.1, q.2.2.2.2.2.2.2.2.2.2.2.1, upd q.2.2.2.2.2.2.2.2.2.2.2.2.1 sn b, upd q.2.2.2.2.2.2.2.2.2.2.2.2.2.1 sn 0, q.2.2.2.2.2.2.2.2.2.2.2.2.2.2)) (zrQ (40 * sn) 40 (qC (q.1, q.2.1, q.2.2.1, q.2.2.2.1, q.2.2.2.2.1, q.2.2.2.2.2.1, q.2.2.2.2.2.2.1, q.2.2.2.2.2.2.2.1, q.2.2.2.2.2.2.2.2.1, q.2.2.2.2.2.2.2.2.2.1, q.2.2.2.2.2.2.2.2.2.2.1, q.2.2.2.2.2.2.2.2.2.2.2.1, upd q.2.2.2.2.2.2.2.2.2.2.2.2.1 sn b, upd q.2.2.2.2.2.2.2.2.2.2.2.2.2.1 sn 0, q.2.2.2.2.2.2.2.2.2.2.2.2.2.2))), mf) from by unfold r_sheet; refine (if_pos ⟨c_4, by first | exact Or.inl c_8 | exact Or.inr (Or.inl c_14) | exact Or.inr (Or.inr (Or.inl c_20)) | exact Or.inr (Or.inr (Or.inr c_26))⟩).trans ((if_neg (Int32.not_lt.mpr c_37)).trans ((if_pos c_50).trans ?_)); rw [esn, if_pos c_73]; rfl]
                have z := lp_X7_sheet (X := X) (d := d) (lk := lk) (o := o) (mf := mf) (wf := wf) (q := (q.1, q.2.1, q.2.2.1, q.2.2.2.1, q.2.2.2.2.1, q.2.2.2.2.2.1, q.2.2.2.2.2.2.1, q.2.2.2.2.2.2.2.1, q.2.2.2.2.2.2.2.2.1, q.2.2.2.2.2.2.2.2.2.1, q.2.2.2.2.2.2.2.2.2.2.1, q.2.2.2.2.2.2.2.2.2.2.2.1, upd q.2.2.2.2.2.2.2.2.2.2.2.2.1 sn b, upd q.2.2.2.2.2.2.2.2.2.2.2.2.2.1 sn 0, q.2.2.2.2.2.2.2.2.2.2.2.2.2.2)) (b := b) (n := n) (v := 0) hsn pk_us 40 0 rfl
                rw [zrQ_0] at z
                exact z
            ·
              refine xg_aload_n (pc := 53) dX7_sheet_53 rfl ?_
              refine xg_ldc (v := -1000000001) (pc := 54) dX7_sheet_54 ccX7_42 ?_
              refine xg_cvI (pc := 56) (h1 := hp lk o mf wf (q.1, q.2.1, upd q.2.2.1 0 (q.2.2.1 0 + 1), q.2.2.2.1, q.2.2.2.2.1, q.2.2.2.2.2.1, q.2.2.2.2.2.2.1, q.2.2.2.2.2.2.2.1, q.2.2.2.2.2.2.2.2.1, q.2.2.2.2.2.2.2.2.2.1, q.2.2.2.2.2.2.2.2.2.2.1, q.2.2.2.2.2.2.2.2.2.2.2.1, q.2.2.2.2.2.2.2.2.2.2.2.2.1, q.2.2.2.2.2.2.2.2.2.2.2.2.2.1, q.2.2.2.2.2.2.2.2.2.2.2.2.2.2)) (x := -1000000001) (M' := mX7_finds) dX7_sheet_56 lkX7_44 mcX7_finds hp_62 rfl (ev_X7_finds (j := 0) (by decide) (by decide)) rfl rfl (Nat.le_of_ble_eq_true rfl) ?_
              exact xg_iret (pc := 59) dX7_sheet_59 rfl (rpR (by exact (if_pos ⟨c_4, by first | exact Or.inl c_8 | exact Or.inr (Or.inl c_14) | exact Or.inr (Or.inr (Or.inl c_20)) | exact Or.inr (Or.inr (Or.inr c_26))⟩).trans ((if_neg (Int32.not_lt.mpr (Classical.not_not.mp (fun z => z c_37)))).trans (if_neg c_50))) eq65.rf)
          ·
            refine xg_aload_n (pc := 40) dX7_sheet_40 rfl ?_
            refine xg_ldc (v := -1000000007) (pc := 41) dX7_sheet_41 ccX7_230 ?_
            refine xg_cvI (pc := 43) (h1 := hp lk o mf wf (q.1, q.2.1, upd q.2.2.1 6 (q.2.2.1 6 + 1), q.2.2.2.1, q.2.2.2.2.1, q.2.2.2.2.2.1, q.2.2.2.2.2.2.1, q.2.2.2.2.2.2.2.1, q.2.2.2.2.2.2.2.2.1, q.2.2.2.2.2.2.2.2.2.1, q.2.2.2.2.2.2.2.2.2.2.1, q.2.2.2.2.2.2.2.2.2.2.2.1, q.2.2.2.2.2.2.2.2.2.2.2.2.1, q.2.2.2.2.2.2.2.2.2.2.2.2.2.1, q.2.2.2.2.2.2.2.2.2.2.2.2.2.2)) (x := -1000000007) (M' := mX7_finds) dX7_sheet_43 lkX7_44 mcX7_finds hp_62 rfl (ev_X7_finds (j := 6) (by decide) (by decide)) rfl rfl (Nat.le_of_ble_eq_true rfl) ?_
            exact xg_iret (pc := 46) dX7_sheet_46 rfl (rpR (by exact (if_pos ⟨c_4, by first | exact Or.inl c_8 | exact Or.inr (Or.inl c_14) | exact Or.inr (Or.inr (Or.inl c_20)) | exact Or.inr (Or.inr (Or.inr c_26))⟩).trans (if_pos (Int32.not_le.mp c_37))) eq65.rf)
        ·
          refine xg_iload_n (pc := 23) dX7_sheet_23 rfl ?_
          refine xg_bipush (v := 64) (pc := 24) dX7_sheet_24 (by decide) ?_
          refine xg_icmp_eq (pc := 26) (tgt := 36) dX7_sheet_26 (by decide) (fun c_26 => ?_) (fun c_26 => ?_)
          ·
            refine xg_iload_n (pc := 36) dX7_sheet_36 rfl ?_
            refine xg_if_ge (pc := 37) (tgt := 47) dX7_sheet_37 (by decide) (fun c_37 => ?_) (fun c_37 => ?_)
            ·
              refine xg_iload_n (pc := 47) dX7_sheet_47 rfl ?_
              refine xg_bipush (v := 40) (pc := 48) dX7_sheet_48 (by decide) ?_
              refine xg_icmp_le (pc := 50) (tgt := 60) dX7_sheet_50 (by decide) (fun c_50 => ?_) (fun c_50 => ?_)
              ·
                obtain ⟨sn, hsn, rfl⟩ := sheet_n c_4
                have esn : ix (nI sn) = sn := nI_clamp (by omega)
                refine xg_aload_n (pc := 60) dX7_sheet_60 rfl ?_
                refine xg_get (pc := 61) dX7_sheet_61 flX7_32 hp_62 rfl ?_
                refine xg_iload_n (pc := 64) dX7_sheet_64 rfl ?_
                refine xg_iload_n (pc := 65) dX7_sheet_65 rfl ?_
                refine xg_iast (pc := 66) (h' := hp lk o mf wf (q.1, q.2.1, q.2.2.1, q.2.2.2.1, q.2.2.2.2.1, q.2.2.2.2.2.1, q.2.2.2.2.2.2.1, q.2.2.2.2.2.2.2.1, q.2.2.2.2.2.2.2.2.1, q.2.2.2.2.2.2.2.2.2.1, q.2.2.2.2.2.2.2.2.2.2.1, q.2.2.2.2.2.2.2.2.2.2.2.1, upd q.2.2.2.2.2.2.2.2.2.2.2.2.1 sn b, q.2.2.2.2.2.2.2.2.2.2.2.2.2.1, q.2.2.2.2.2.2.2.2.2.2.2.2.2.2)) sn dX7_sheet_66 hp_70 rfl (by omega) (by decide) hs_bo ?_
                refine xg_aload_n (pc := 67) dX7_sheet_67 rfl ?_
                refine xg_get (pc := 68) dX7_sheet_68 flX7_35 hp_62 rfl ?_
                refine xg_iload_n (pc := 71) dX7_sheet_71 rfl ?_
                refine xg_iload_n (pc := 72) dX7_sheet_72 rfl ?_
                refine xg_if_ne (pc := 73) (tgt := 80) dX7_sheet_73 (by decide) (fun c_73 => ?_) (fun c_73 => ?_)
                ·
                  refine xg_iload_n (pc := 80) dX7_sheet_80 rfl ?_
                  refine xg_iast (pc := 81) (h' := hp lk o mf wf (q.1, q.2.1, q.2.2.1, q.2.2.2.1, q.2.2.2.2.1, q.2.2.2.2.2.1, q.2.2.2.2.2.2.1, q.2.2.2.2.2.2.2.1, q.2.2.2.2.2.2.2.2.1, q.2.2.2.2.2.2.2.2.2.1, q.2.2.2.2.2.2.2.2.2.2.1, q.2.2.2.2.2.2.2.2.2.2.2.1, upd q.2.2.2.2.2.2.2.2.2.2.2.2.1 sn b, upd q.2.2.2.2.2.2.2.2.2.2.2.2.2.1 sn n, q.2.2.2.2.2.2.2.2.2.2.2.2.2.2)) sn dX7_sheet_81 hp_71 rfl (by omega) (by decide) hs_so ?_
                  refine xg_iconst (v := 0) (pc := 82) dX7_sheet_82 (by decide) ?_
                  refine xg_istore (pc := 83) (ls' := [some (.ref 62), some (.int (nI sn)), some (.int b), some (.int n), some (.int 0)]) dX7_sheet_83 (by decide) rfl ?_
                  rw [show r_sheet q mf (nI sn) b n = (.int (n), qS (q.1, q.2.1, q.2.2.1, q.2.2.2.1, q.2.2.2.2.1, q.2.2.2.2.2.1, q.2.2.2.2.2.2.1, q.2.2.2.2.2.2.2.1, q.2.2.2.2.2.2.2.2.1, q.2.2.2.2.2.2.2.2.2.1, q.2.2.2.2.2.2.2.2.2.2.1, q.2.2.2.2.2.2.2.2.2.2.2.1, upd q.2.2.2.2.2.2.2.2.2.2.2.2.1 sn b, upd q.2.2.2.2.2.2.2.2.2.2.2.2.2.1 sn n, q.2.2.2.2.2.2.2.2.2.2.2.2.2.2) (qB (q.1, q.2.1, q.2.2.1, q.2.2.2.1, q.2.2.2.2.1, q.2.2.2.2.2.1, q.2.2.2.2.2.2.1, q.2.2.2.2.2.2.2.1, q.2.2.2.2.2.2.2.2.1, q.2.2.2.2.2.2.2.2.2.1, q.2.2.2.2.2.2.2.2.2.2.1, q.2.2.2.2.2.2.2.2.2.2.2.1, upd q.2.2.2.2.2.2.2.2.2.2.2.2.1 sn b, upd q.2.2.2.2.2.2.2.2.2.2.2.2.2.1 sn n, q.2.2.2.2.2.2.2.2.2.2.2.2.2.2)) (qZ (q.1, q.2.1, q.2.2.1, q.2.2.2.1, q.2.2.2.2.1, q.2.2.2.2.2.1, q.2.2.2.2.2.2.1, q.2.2.2.2.2.2.2.1, q.2.2.2.2.2.2.2.2.1, q.2.2.2.2.2.2.2.2.2.1, q.2.2.2.2.2.2.2.2.2.2.1, q.2.2.2.2.2.2.2.2.2.2.2.1, upd q.2.2.2.2.2.2.2.2.2.2.2.2.1 sn b, upd q.2.2.2.2.2.2.2.2.2.2.2.2.2.1 sn n, q.2.2.2.2.2.2.2.2.2.2.2.2.2.2)) (zrQ (40 * sn) 40 (qC (q.1, q.2.1, q.2.2.1, q.2.2.2.1, q.2.2.2.2.1, q.2.2.2.2.2.1, q.2.2.2.2.2.2.1, q.2.2.2.2.2.2.2.1, q.2.2.2.2.2.2.2.2.1, q.2.2.2.2.2.2.2.2.2.1, q.2.2.2.2.2.2.2.2.2.2.1, q.2.2.2.2.2.2.2.2.2.2.2.1, upd q.2.2.2.2.2.2.2.2.2.2.2.2.1 sn b, upd q.2.2.2.2.2.2.2.2.2.2.2.2.2.1 sn n, q.2.2.2.2.2.2.2.2.2.2.2.2.2.2))), mf) from by unfold r_sheet; refine (if_pos ⟨c_4, by first | exact Or.inl c_8 | exact Or.inr (Or.inl c_14) | exact Or.inr (Or.inr (Or.inl c_20)) | exact Or.inr (Or.inr (Or.inr c_26))⟩).trans ((if_neg (Int32.not_lt.mpr c_37)).trans ((if_pos c_50).trans ?_)); rw [esn, if_neg c_73]; rfl]
                  have z := lp_X7_sheet (X := X) (d := d) (lk := lk) (o := o) (mf := mf) (wf := wf) (q := (q.1, q.2.1, q.2.2.1, q.2.2.2.1, q.2.2.2.2.1, q.2.2.2.2.2.1, q.2.2.2.2.2.2.1, q.2.2.2.2.2.2.2.1, q.2.2.2.2.2.2.2.2.1, q.2.2.2.2.2.2.2.2.2.1, q.2.2.2.2.2.2.2.2.2.2.1, q.2.2.2.2.2.2.2.2.2.2.2.1, upd q.2.2.2.2.2.2.2.2.2.2.2.2.1 sn b, upd q.2.2.2.2.2.2.2.2.2.2.2.2.2.1 sn n, q.2.2.2.2.2.2.2.2.2.2.2.2.2.2)) (b := b) (n := n) (v := n) hsn pk_us 40 0 rfl
                  rw [zrQ_0] at z
                  exact z
                ·
                  refine xg_iconst (v := 0) (pc := 76) dX7_sheet_76 (by decide) ?_
                  refine xg_goto (pc := 77) (tgt := 81) dX7_sheet_77 (by decide) ?_
                  refine xg_iast (pc := 81) (h' := hp lk o mf wf (q.1, q.2.1, q.2.2.1, q.2.2.2.1, q.2.2.2.2.1, q.2.2.2.2.2.1, q.2.2.2.2.2.2.1, q.2.2.2.2.2.2.2.1, q.2.2.2.2.2.2.2.2.1, q.2.2.2.2.2.2.2.2.2.1, q.2.2.2.2.2.2.2.2.2.2.1, q.2.2.2.2.2.2.2.2.2.2.2.1, upd q.2.2.2.2.2.2.2.2.2.2.2.2.1 sn b, upd q.2.2.2.2.2.2.2.2.2.2.2.2.2.1 sn 0, q.2.2.2.2.2.2.2.2.2.2.2.2.2.2)) sn dX7_sheet_81 hp_71 rfl (by omega) (by decide) hs_so ?_
                  refine xg_iconst (v := 0) (pc := 82) dX7_sheet_82 (by decide) ?_
                  refine xg_istore (pc := 83) (ls' := [some (.ref 62), some (.int (nI sn)), some (.int b), some (.int n), some (.int 0)]) dX7_sheet_83 (by decide) rfl ?_
                  rw [show r_sheet q mf (nI sn) b n = (.int (0), qS (q.1, q.2.1, q.2.2.1, q.2.2.2.1, q.2.2.2.2.1, q.2.2.2.2.2.1, q.2.2.2.2.2.2.1, q.2.2.2.2.2.2.2.1, q.2.2.2.2.2.2.2.2.1, q.2.2.2.2.2.2.2.2.2.1, q.2.2.2.2.2.2.2.2.2.2.1, q.2.2.2.2.2.2.2.2.2.2.2.1, upd q.2.2.2.2.2.2.2.2.2.2.2.2.1 sn b, upd q.2.2.2.2.2.2.2.2.2.2.2.2.2.1 sn 0, q.2.2.2.2.2.2.2.2.2.2.2.2.2.2) (qB (q.1, q.2.1, q.2.2.1, q.2.2.2.1, q.2.2.2.2.1, q.2.2.2.2.2.1, q.2.2.2.2.2.2.1, q.2.2.2.2.2.2.2.1, q.2.2.2.2.2.2.2.2.1, q.2.2.2.2.2.2.2.2.2.1, q.2.2.2.2.2.2.2.2.2.2.1, q.2.2.2.2.2.2.2.2.2.2.2.1, upd q.2.2.2.2.2.2.2.2.2.2.2.2.1 sn b, upd q.2.2.2.2.2.2.2.2.2.2.2.2.2.1 sn 0, q.2.2.2.2.2.2.2.2.2.2.2.2.2.2)) (qZ (q.1, q.2.1, q.2.2.1, q.2.2.2.1, q.2.2.2.2.1, q.2.2.2.2.2.1, q.2.2.2.2.2.2.1, q.2.2.2.2.2.2.2.1, q.2.2.2.2.2.2.2.2.1, q.2.2.2.2.2.2.2.2.2.1, q.2.2.2.2.2.2.2.2.2.2.1, q.2.2.2.2.2.2.2.2.2.2.2.1, upd q.2.2.2.2.2.2.2.2.2.2.2.2.1 sn b, upd q.2.2.2.2.2.2.2.2.2.2.2.2.2.1 sn 0, q.2.2.2.2.2.2.2.2.2.2.2.2.2.2)) (zrQ (40 * sn) 40 (qC (q.1, q.2.1, q.2.2.1, q.2.2.2.1, q.2.2.2.2.1, q.2.2.2.2.2.1, q.2.2.2.2.2.2.1, q.2.2.2.2.2.2.2.1, q.2.2.2.2.2.2.2.2.1, q.2.2.2.2.2.2.2.2.2.1, q.2.2.2.2.2.2.2.2.2.2.1, q.2.2.2.2.2.2.2.2.2.2.2.1, upd q.2.2.2.2.2.2.2.2.2.2.2.2.1 sn b, upd q.2.2.2.2.2.2.2.2.2.2.2.2.2.1 sn 0, q.2.2.2.2.2.2.2.2.2.2.2.2.2.2))), mf) from by unfold r_sheet; refine (if_pos ⟨c_4, by first | exact Or.inl c_8 | exact Or.inr (Or.inl c_14) | exact Or.inr (Or.inr (Or.inl c_20)) | exact Or.inr (Or.inr (Or.inr c_26))⟩).trans ((if_neg (Int32.not_lt.mpr c_37)).trans ((if_pos c_50).trans ?_)); rw [esn, if_pos c_73]; rfl]
                  have z := lp_X7_sheet (X := X) (d := d) (lk := lk) (o := o) (mf := mf) (wf := wf) (q := (q.1, q.2.1, q.2.2.1, q.2.2.2.1, q.2.2.2.2.1, q.2.2.2.2.2.1, q.2.2.2.2.2.2.1, q.2.2.2.2.2.2.2.1, q.2.2.2.2.2.2.2.2.1, q.2.2.2.2.2.2.2.2.2.1, q.2.2.2.2.2.2.2.2.2.2.1, q.2.2.2.2.2.2.2.2.2.2.2.1, upd q.2.2.2.2.2.2.2.2.2.2.2.2.1 sn b, upd q.2.2.2.2.2.2.2.2.2.2.2.2.2.1 sn 0, q.2.2.2.2.2.2.2.2.2.2.2.2.2.2)) (b := b) (n := n) (v := 0) hsn pk_us 40 0 rfl
                  rw [zrQ_0] at z
                  exact z
              ·
                refine xg_aload_n (pc := 53) dX7_sheet_53 rfl ?_
                refine xg_ldc (v := -1000000001) (pc := 54) dX7_sheet_54 ccX7_42 ?_
                refine xg_cvI (pc := 56) (h1 := hp lk o mf wf (q.1, q.2.1, upd q.2.2.1 0 (q.2.2.1 0 + 1), q.2.2.2.1, q.2.2.2.2.1, q.2.2.2.2.2.1, q.2.2.2.2.2.2.1, q.2.2.2.2.2.2.2.1, q.2.2.2.2.2.2.2.2.1, q.2.2.2.2.2.2.2.2.2.1, q.2.2.2.2.2.2.2.2.2.2.1, q.2.2.2.2.2.2.2.2.2.2.2.1, q.2.2.2.2.2.2.2.2.2.2.2.2.1, q.2.2.2.2.2.2.2.2.2.2.2.2.2.1, q.2.2.2.2.2.2.2.2.2.2.2.2.2.2)) (x := -1000000001) (M' := mX7_finds) dX7_sheet_56 lkX7_44 mcX7_finds hp_62 rfl (ev_X7_finds (j := 0) (by decide) (by decide)) rfl rfl (Nat.le_of_ble_eq_true rfl) ?_
                exact xg_iret (pc := 59) dX7_sheet_59 rfl (rpR (by exact (if_pos ⟨c_4, by first | exact Or.inl c_8 | exact Or.inr (Or.inl c_14) | exact Or.inr (Or.inr (Or.inl c_20)) | exact Or.inr (Or.inr (Or.inr c_26))⟩).trans ((if_neg (Int32.not_lt.mpr (Classical.not_not.mp (fun z => z c_37)))).trans (if_neg c_50))) eq65.rf)
            ·
              refine xg_aload_n (pc := 40) dX7_sheet_40 rfl ?_
              refine xg_ldc (v := -1000000007) (pc := 41) dX7_sheet_41 ccX7_230 ?_
              refine xg_cvI (pc := 43) (h1 := hp lk o mf wf (q.1, q.2.1, upd q.2.2.1 6 (q.2.2.1 6 + 1), q.2.2.2.1, q.2.2.2.2.1, q.2.2.2.2.2.1, q.2.2.2.2.2.2.1, q.2.2.2.2.2.2.2.1, q.2.2.2.2.2.2.2.2.1, q.2.2.2.2.2.2.2.2.2.1, q.2.2.2.2.2.2.2.2.2.2.1, q.2.2.2.2.2.2.2.2.2.2.2.1, q.2.2.2.2.2.2.2.2.2.2.2.2.1, q.2.2.2.2.2.2.2.2.2.2.2.2.2.1, q.2.2.2.2.2.2.2.2.2.2.2.2.2.2)) (x := -1000000007) (M' := mX7_finds) dX7_sheet_43 lkX7_44 mcX7_finds hp_62 rfl (ev_X7_finds (j := 6) (by decide) (by decide)) rfl rfl (Nat.le_of_ble_eq_true rfl) ?_
              exact xg_iret (pc := 46) dX7_sheet_46 rfl (rpR (by exact (if_pos ⟨c_4, by first | exact Or.inl c_8 | exact Or.inr (Or.inl c_14) | exact Or.inr (Or.inr (Or.inl c_20)) | exact Or.inr (Or.inr (Or.inr c_26))⟩).trans (if_pos (Int32.not_le.mp c_37))) eq65.rf)
          ·
            refine xg_aload_n (pc := 29) dX7_sheet_29 rfl ?_
            refine xg_ldc (v := -1000000001) (pc := 30) dX7_sheet_30 ccX7_42 ?_
            refine xg_cvI (pc := 32) (h1 := hp lk o mf wf (q.1, q.2.1, upd q.2.2.1 0 (q.2.2.1 0 + 1), q.2.2.2.1, q.2.2.2.2.1, q.2.2.2.2.2.1, q.2.2.2.2.2.2.1, q.2.2.2.2.2.2.2.1, q.2.2.2.2.2.2.2.2.1, q.2.2.2.2.2.2.2.2.2.1, q.2.2.2.2.2.2.2.2.2.2.1, q.2.2.2.2.2.2.2.2.2.2.2.1, q.2.2.2.2.2.2.2.2.2.2.2.2.1, q.2.2.2.2.2.2.2.2.2.2.2.2.2.1, q.2.2.2.2.2.2.2.2.2.2.2.2.2.2)) (x := -1000000001) (M' := mX7_finds) dX7_sheet_32 lkX7_44 mcX7_finds hp_62 rfl (ev_X7_finds (j := 0) (by decide) (by decide)) rfl rfl (Nat.le_of_ble_eq_true rfl) ?_
            exact xg_iret (pc := 35) dX7_sheet_35 rfl (rpR (by exact if_neg (fun q => q.2.elim c_8 (fun q => q.elim c_14 (fun q => q.elim c_20 c_26)))) eq65.rf)
set_option maxRecDepth 100000 in
theorem ev_nt_b {s : Int32} (hs : ¬ (0 ≤ s ∧ s ≤ 3)) : xDv X false (d + 2) mX7_notThere [.ref 62, .int s] (hp lk o mf wf q) [.int (-1000000001)] (hp lk o mf wf q) := by
  refine xDv.of (ls := [some (.ref 62), some (.int s)]) mcX7_notThere.1.2.2.2.2 (Nat.le_of_ble_eq_true rfl) rfl ?_
  refine xg_iload_n (pc := 0) dX7_notThere_0 rfl ?_
  refine xg_csI (pc := 1) (h1 := hp lk o mf wf q) (x := if 0 ≤ s ∧ s ≤ 3 then 1 else 0) (M' := mX7_isSheet) dX7_notThere_1 lkX7_227 mcX7_isSheet (ev_X7_isSheet) rfl rfl (Nat.le_of_ble_eq_true rfl) ?_
  refine xg_bnz (pc := 4) (tgt := 12) dX7_notThere_4 (by decide) (fun c_4 => absurd c_4 hs) (fun c_4 => ?_)
  refine xg_ldc (v := -1000000001) (pc := 7) dX7_notThere_7 ccX7_42 ?_
  refine xg_goto (pc := 9) (tgt := 27) dX7_notThere_9 (by decide) ?_
  exact xg_iret (pc := 27) dX7_notThere_27 rfl (⟨by rfl, rfl⟩)
set_option maxRecDepth 100000 in
theorem ev_nt_m {sn : Nat} (hs : sn ≤ 3) (hb : q.2.2.2.2.2.2.2.2.2.2.2.2.1 sn = 0) : xDv X false (d + 2) mX7_notThere [.ref 62, .int (nI sn)] (hp lk o mf wf q) [.int (-1000000006)] (hp lk o mf wf q) := by
  refine xDv.of (ls := [some (.ref 62), some (.int (nI sn))]) mcX7_notThere.1.2.2.2.2 (Nat.le_of_ble_eq_true rfl) rfl ?_
  refine xg_iload_n (pc := 0) dX7_notThere_0 rfl ?_
  refine xg_csI (pc := 1) (h1 := hp lk o mf wf q) (x := if 0 ≤ (nI sn) ∧ (nI sn) ≤ 3 then 1 else 0) (M' := mX7_isSheet) dX7_notThere_1 lkX7_227 mcX7_isSheet (ev_X7_isSheet) rfl rfl (Nat.le_of_ble_eq_true rfl) ?_
  refine xg_bnz (pc := 4) (tgt := 12) dX7_notThere_4 (by decide) (fun c_4 => ?_) (fun c_4 => absurd c_4 (fun q => q (rg_of (m := 3) hs (by decide))))
  refine xg_aload_n (pc := 12) dX7_notThere_12 rfl ?_
  refine xg_get (pc := 13) dX7_notThere_13 flX7_32 hp_62 rfl ?_
  refine xg_iload_n (pc := 16) dX7_notThere_16 rfl ?_
  refine xg_iald (pc := 17) sn dX7_notThere_17 hp_70 rfl (by omega) (by decide) ?_
  refine xg_if_ne (pc := 18) (tgt := 26) dX7_notThere_18 (by decide) (fun c_18 => absurd c_18 (fun q => q hb)) (fun c_18 => ?_)
  refine xg_ldc (v := -1000000006) (pc := 21) dX7_notThere_21 ccX7_231 ?_
  refine xg_goto (pc := 23) (tgt := 27) dX7_notThere_23 (by decide) ?_
  exact xg_iret (pc := 27) dX7_notThere_27 rfl (⟨by rfl, rfl⟩)
set_option maxRecDepth 100000 in
theorem ev_nt_0 {sn : Nat} (hs : sn ≤ 3) (hb : ¬ q.2.2.2.2.2.2.2.2.2.2.2.2.1 sn = 0) : xDv X false (d + 2) mX7_notThere [.ref 62, .int (nI sn)] (hp lk o mf wf q) [.int 0] (hp lk o mf wf q) := by
  refine xDv.of (ls := [some (.ref 62), some (.int (nI sn))]) mcX7_notThere.1.2.2.2.2 (Nat.le_of_ble_eq_true rfl) rfl ?_
  refine xg_iload_n (pc := 0) dX7_notThere_0 rfl ?_
  refine xg_csI (pc := 1) (h1 := hp lk o mf wf q) (x := if 0 ≤ (nI sn) ∧ (nI sn) ≤ 3 then 1 else 0) (M' := mX7_isSheet) dX7_notThere_1 lkX7_227 mcX7_isSheet (ev_X7_isSheet) rfl rfl (Nat.le_of_ble_eq_true rfl) ?_
  refine xg_bnz (pc := 4) (tgt := 12) dX7_notThere_4 (by decide) (fun c_4 => ?_) (fun c_4 => absurd c_4 (fun q => q (rg_of (m := 3) hs (by decide))))
  refine xg_aload_n (pc := 12) dX7_notThere_12 rfl ?_
  refine xg_get (pc := 13) dX7_notThere_13 flX7_32 hp_62 rfl ?_
  refine xg_iload_n (pc := 16) dX7_notThere_16 rfl ?_
  refine xg_iald (pc := 17) sn dX7_notThere_17 hp_70 rfl (by omega) (by decide) ?_
  refine xg_if_ne (pc := 18) (tgt := 26) dX7_notThere_18 (by decide) (fun c_18 => ?_) (fun c_18 => absurd c_18 hb)
  refine xg_iconst (v := 0) (pc := 26) dX7_notThere_26 (by decide) ?_
  exact xg_iret (pc := 27) dX7_notThere_27 rfl (⟨by rfl, rfl⟩)
theorem nt3 {s : Int32} {g : Nat → Int32} : (¬ (0 ≤ s ∧ s ≤ 3)) ∨ (∃ sn, sn ≤ 3 ∧ s = nI sn ∧ g sn = 0) ∨ (∃ sn, sn ≤ 3 ∧ s = nI sn ∧ ¬ g sn = 0) := by
  by_cases h : 0 ≤ s ∧ s ≤ 3
  · obtain ⟨j, hj, e⟩ := sheet_n h
    by_cases hg : g j = 0
    · exact Or.inr (Or.inl ⟨j, hj, e, hg⟩)
    · exact Or.inr (Or.inr ⟨j, hj, e, hg⟩)
  · exact Or.inl h
theorem sn_e {sn : Nat} (h : sn ≤ 3) : ix (nI sn) = sn := nI_clamp (by omega)
theorem sn_r {sn : Nat} (h : sn ≤ 3) : 0 ≤ nI sn ∧ nI sn ≤ 3 := rg_of (m := 3) h (by decide)
theorem le_pred {i z : Int32} {n : Nat} (hz : z = nI n) (h : 0 ≤ i ∧ i < z) : 0 ≤ i ∧ i ≤ z - 1 := by
  refine ⟨h.1, ?_⟩
  have h2 := h.2
  have h1 := h.1
  rw [Int32.lt_iff_toInt_lt] at h2
  rw [Int32.le_iff_toInt_le] at h1 ⊢
  have e0 : (0 : Int32).toInt = 0 := by decide
  have e1 : (1 : Int32).toInt = 1 := by decide
  have hl := Int32.toInt_lt z
  rw [Int32.toInt_sub, e1, Int.bmod_eq_of_le] <;> omega
theorem lt_pred {i z : Int32} {n : Nat} (hz : z = nI n) (hn : n ≤ 40) (h : 0 ≤ i ∧ i ≤ z - 1) : 0 ≤ i ∧ i < z := by
  refine ⟨h.1, ?_⟩
  have h2 := h.2
  have h1 := h.1
  rw [Int32.le_iff_toInt_le] at h1 h2
  rw [Int32.lt_iff_toInt_lt]
  have e0 : (0 : Int32).toInt = 0 := by decide
  have e1 : (1 : Int32).toInt = 1 := by decide
  have ez : z.toInt = n := by rw [hz]; exact nI_toInt (by omega)
  rw [Int32.toInt_sub, e1, Int.bmod_eq_of_le] at h2 <;> omega
set_option maxRecDepth 100000 in
set_option maxHeartbeats 4000000 in
theorem ev_X7_write {s i : Int32} {v : Int64} (okz : okS (qZ q)) : xEv X false (d + 3) 0 0 mX7_write [.ref 62, .int s, .int i, .long v] (hp lk o mf wf q) (RP lk o (r_write q mf s i v)) := by
  refine xEv.of (ls := [some (.ref 62), some (.int s), some (.int i), some (.long v), none, none, none, none]) mcX7_write.1.2.2.2.2 (Nat.le_of_ble_eq_true rfl) rfl ?_
  rcases nt3 (s := s) (g := q.2.2.2.2.2.2.2.2.2.2.2.2.1) with hs | ⟨sn, hsn, rfl, hm⟩ | ⟨sn, hsn, rfl, hm⟩
  ·
    refine xg_aload_n (pc := 0) dX7_write_0 rfl ?_
    refine xg_iload_n (pc := 1) dX7_write_1 rfl ?_
    refine xg_cvI (pc := 2) (h1 := hp lk o mf wf q) (x := -1000000001) (M' := mX7_notThere) dX7_write_2 lkX7_232 mcX7_notThere hp_62 rfl (ev_nt_b hs) rfl rfl (Nat.le_of_ble_eq_true rfl) ?_
    refine xg_istore (pc := 5) (ls' := [some (.ref 62), some (.int s), some (.int i), some (.long v), none, some (.int (-1000000001)), none, none]) dX7_write_5 (by decide) rfl ?_
    refine xg_iload (pc := 7) dX7_write_7 rfl ?_
    refine xg_if_ne (pc := 9) (tgt := 33) dX7_write_9 (by decide) (fun c_9 => ?_) (fun c_9 => absurd c_9 (by decide))
    refine xg_iload (pc := 33) dX7_write_33 rfl ?_
    refine xg_if_eq (pc := 35) (tgt := 46) dX7_write_35 (by decide) (fun c_35 => absurd c_35 (by decide)) (fun c_35 => ?_)
    refine xg_aload_n (pc := 38) dX7_write_38 rfl ?_
    refine xg_iload (pc := 39) dX7_write_39 rfl ?_
    refine xg_cvI (pc := 41) (h1 := hp lk o mf wf (q.1, q.2.1, upd q.2.2.1 0 (q.2.2.1 0 + 1), q.2.2.2.1, q.2.2.2.2.1, q.2.2.2.2.2.1, q.2.2.2.2.2.2.1, q.2.2.2.2.2.2.2.1, q.2.2.2.2.2.2.2.2.1, q.2.2.2.2.2.2.2.2.2.1, q.2.2.2.2.2.2.2.2.2.2.1, q.2.2.2.2.2.2.2.2.2.2.2.1, q.2.2.2.2.2.2.2.2.2.2.2.2.1, q.2.2.2.2.2.2.2.2.2.2.2.2.2.1, q.2.2.2.2.2.2.2.2.2.2.2.2.2.2)) (x := -1000000001) (M' := mX7_finds) dX7_write_41 lkX7_44 mcX7_finds hp_62 rfl (ev_X7_finds (j := 0) (by decide) (by decide)) rfl rfl (Nat.le_of_ble_eq_true rfl) ?_
    refine xg_i2l (pc := 44) dX7_write_44 ?_
    exact xg_lret (pc := 45) dX7_write_45 rfl (rpR (by exact if_neg hs) eq65.rf)
  ·
    refine xg_aload_n (pc := 0) dX7_write_0 rfl ?_
    refine xg_iload_n (pc := 1) dX7_write_1 rfl ?_
    refine xg_cvI (pc := 2) (h1 := hp lk o mf wf q) (x := -1000000006) (M' := mX7_notThere) dX7_write_2 lkX7_232 mcX7_notThere hp_62 rfl (ev_nt_m hsn hm) rfl rfl (Nat.le_of_ble_eq_true rfl) ?_
    refine xg_istore (pc := 5) (ls' := [some (.ref 62), some (.int (nI sn)), some (.int i), some (.long v), none, some (.int (-1000000006)), none, none]) dX7_write_5 (by decide) rfl ?_
    refine xg_iload (pc := 7) dX7_write_7 rfl ?_
    refine xg_if_ne (pc := 9) (tgt := 33) dX7_write_9 (by decide) (fun c_9 => ?_) (fun c_9 => absurd c_9 (by decide))
    refine xg_iload (pc := 33) dX7_write_33 rfl ?_
    refine xg_if_eq (pc := 35) (tgt := 46) dX7_write_35 (by decide) (fun c_35 => absurd c_35 (by decide)) (fun c_35 => ?_)
    refine xg_aload_n (pc := 38) dX7_write_38 rfl ?_
    refine xg_iload (pc := 39) dX7_write_39 rfl ?_
    refine xg_cvI (pc := 41) (h1 := hp lk o mf wf (q.1, q.2.1, upd q.2.2.1 5 (q.2.2.1 5 + 1), q.2.2.2.1, q.2.2.2.2.1, q.2.2.2.2.2.1, q.2.2.2.2.2.2.1, q.2.2.2.2.2.2.2.1, q.2.2.2.2.2.2.2.2.1, q.2.2.2.2.2.2.2.2.2.1, q.2.2.2.2.2.2.2.2.2.2.1, q.2.2.2.2.2.2.2.2.2.2.2.1, q.2.2.2.2.2.2.2.2.2.2.2.2.1, q.2.2.2.2.2.2.2.2.2.2.2.2.2.1, q.2.2.2.2.2.2.2.2.2.2.2.2.2.2)) (x := -1000000006) (M' := mX7_finds) dX7_write_41 lkX7_44 mcX7_finds hp_62 rfl (ev_X7_finds (j := 5) (by decide) (by decide)) rfl rfl (Nat.le_of_ble_eq_true rfl) ?_
    refine xg_i2l (pc := 44) dX7_write_44 ?_
    exact xg_lret (pc := 45) dX7_write_45 rfl (rpR (by refine (if_pos (sn_r hsn)).trans ((if_pos (by rw [sn_e hsn]; exact hm)).trans rfl)) eq65.rf)
  ·
    refine xg_aload_n (pc := 0) dX7_write_0 rfl ?_
    refine xg_iload_n (pc := 1) dX7_write_1 rfl ?_
    refine xg_cvI (pc := 2) (h1 := hp lk o mf wf q) (x := 0) (M' := mX7_notThere) dX7_write_2 lkX7_232 mcX7_notThere hp_62 rfl (ev_nt_0 hsn hm) rfl rfl (Nat.le_of_ble_eq_true rfl) ?_
    refine xg_istore (pc := 5) (ls' := [some (.ref 62), some (.int (nI sn)), some (.int i), some (.long v), none, some (.int 0), none, none]) dX7_write_5 (by decide) rfl ?_
    refine xg_iload (pc := 7) dX7_write_7 rfl ?_
    refine xg_if_ne (pc := 9) (tgt := 33) dX7_write_9 (by decide) (fun c_9 => absurd c_9 (by decide)) (fun c_9 => ?_)
    have hz0 := okz sn (by omega)
    refine xg_iload_n (pc := 12) dX7_write_12 rfl ?_
    refine xg_i2l (pc := 13) dX7_write_13 ?_
    refine xg_iconst (v := 0) (pc := 14) dX7_write_14 (by decide) ?_
    refine xg_aload_n (pc := 15) dX7_write_15 rfl ?_
    refine xg_get (pc := 16) dX7_write_16 flX7_35 hp_62 rfl ?_
    refine xg_iload_n (pc := 19) dX7_write_19 rfl ?_
    refine xg_iald (pc := 20) sn dX7_write_20 hp_71 rfl (by omega) (by decide) ?_
    refine xg_iconst (v := 1) (pc := 21) dX7_write_21 (by decide) ?_
    refine xg_isub (pc := 22) dX7_write_22 ?_
    refine xg_csI (pc := 23) (h1 := hp lk o mf wf q) (x := if 0 ≤ i ∧ i ≤ ((q.2.2.2.2.2.2.2.2.2.2.2.2.2.1 sn) - 1) then 1 else 0) (M' := mX7_in) dX7_write_23 lkX7_48 mcX7_in (ev_in) rfl rfl (Nat.le_of_ble_eq_true rfl) ?_
    refine xg_bnz (pc := 26) (tgt := 33) dX7_write_26 (by decide) (fun c_26 => ?_) (fun c_26 => ?_)
    ·
      refine xg_iload (pc := 33) dX7_write_33 rfl ?_
      refine xg_if_eq (pc := 35) (tgt := 46) dX7_write_35 (by decide) (fun c_35 => ?_) (fun c_35 => absurd c_35 (by decide))
      have ha := lt_pred hz0.1 hz0.2 c_26
      obtain ⟨in_, hin_, rfl⟩ := num_n ha hz0.1 hz0.2
      have ein_ : ix (nI in_) = in_ := nI_clamp (by omega)
      have hz9 := hz0.2
      refine xg_aload_n (pc := 46) dX7_write_46 rfl ?_
      refine xg_get (pc := 47) dX7_write_47 flX7_38 hp_62 rfl ?_
      refine xg_bipush (v := 40) (pc := 50) dX7_write_50 (by decide) ?_
      refine xg_iload_n (pc := 52) dX7_write_52 rfl ?_
      refine xg_imul (pc := 53) dX7_write_53 ?_
      refine xg_iload_n (pc := 54) dX7_write_54 rfl ?_
      refine xg_iadd (pc := 55) dX7_write_55 ?_
      refine xg_lald (pc := 56) (40 * sn + in_) dX7_write_56 hp_72 (by simp only [xlit, nI_add, pk_mul]) (by omega) (by decide) ?_
      refine xg_lstore (pc := 57) (ls' := [some (.ref 62), some (.int (nI sn)), some (.int (nI in_)), some (.long v), none, some (.int 0), some (.long (q.2.2.2.2.2.2.2.2.2.2.2.2.2.2 (40 * sn + in_))), none]) dX7_write_57 (by decide) rfl ?_
      refine xg_aload_n (pc := 59) dX7_write_59 rfl ?_
      refine xg_get (pc := 60) dX7_write_60 flX7_38 hp_62 rfl ?_
      refine xg_bipush (v := 40) (pc := 63) dX7_write_63 (by decide) ?_
      refine xg_iload_n (pc := 65) dX7_write_65 rfl ?_
      refine xg_imul (pc := 66) dX7_write_66 ?_
      refine xg_iload_n (pc := 67) dX7_write_67 rfl ?_
      refine xg_iadd (pc := 68) dX7_write_68 ?_
      refine xg_aload_n (pc := 69) dX7_write_69 rfl ?_
      refine xg_get (pc := 70) dX7_write_70 flX7_32 hp_62 rfl ?_
      refine xg_iload_n (pc := 73) dX7_write_73 rfl ?_
      refine xg_iald (pc := 74) sn dX7_write_74 hp_70 rfl (by omega) (by decide) ?_
      refine xg_lload_n (pc := 75) dX7_write_75 rfl ?_
      refine xg_csL (pc := 76) (h1 := hp lk o mf wf q) (x := cut (q.2.2.2.2.2.2.2.2.2.2.2.2.1 sn) v) (M' := mX7_cutTo) dX7_write_76 lkX7_235 mcX7_cutTo (ev_X7_cutTo) rfl rfl (Nat.le_of_ble_eq_true rfl) ?_
      refine xg_last (pc := 79) (h' := hp lk o mf wf (q.1, q.2.1, q.2.2.1, q.2.2.2.1, q.2.2.2.2.1, q.2.2.2.2.2.1, q.2.2.2.2.2.2.1, q.2.2.2.2.2.2.2.1, q.2.2.2.2.2.2.2.2.1, q.2.2.2.2.2.2.2.2.2.1, q.2.2.2.2.2.2.2.2.2.2.1, q.2.2.2.2.2.2.2.2.2.2.2.1, q.2.2.2.2.2.2.2.2.2.2.2.2.1, q.2.2.2.2.2.2.2.2.2.2.2.2.2.1, vp_updL q.2.2.2.2.2.2.2.2.2.2.2.2.2.2 (40 * sn + in_) (cut (q.2.2.2.2.2.2.2.2.2.2.2.2.1 sn) v))) (40 * sn + in_) dX7_write_79 hp_72 (by simp only [xlit, nI_add, pk_mul]) (by omega) (by decide) hs_ce ?_
      refine xg_lload (pc := 80) dX7_write_80 rfl ?_
      exact xg_lret (pc := 82) dX7_write_82 rfl (rpR (by refine (if_pos (sn_r hsn)).trans ((if_neg (by rw [sn_e hsn]; exact hm)).trans ?_); rw [sn_e hsn]; refine (if_pos ha).trans ?_; rw [ein_]; rfl) eq65.rf)
    ·
      refine xg_ldc (v := -1000000001) (pc := 29) dX7_write_29 ccX7_42 ?_
      refine xg_istore (pc := 31) (ls' := [some (.ref 62), some (.int (nI sn)), some (.int i), some (.long v), none, some (.int (-1000000001)), none, none]) dX7_write_31 (by decide) rfl ?_
      refine xg_iload (pc := 33) dX7_write_33 rfl ?_
      refine xg_if_eq (pc := 35) (tgt := 46) dX7_write_35 (by decide) (fun c_35 => absurd c_35 (by decide)) (fun c_35 => ?_)
      refine xg_aload_n (pc := 38) dX7_write_38 rfl ?_
      refine xg_iload (pc := 39) dX7_write_39 rfl ?_
      refine xg_cvI (pc := 41) (h1 := hp lk o mf wf (q.1, q.2.1, upd q.2.2.1 0 (q.2.2.1 0 + 1), q.2.2.2.1, q.2.2.2.2.1, q.2.2.2.2.2.1, q.2.2.2.2.2.2.1, q.2.2.2.2.2.2.2.1, q.2.2.2.2.2.2.2.2.1, q.2.2.2.2.2.2.2.2.2.1, q.2.2.2.2.2.2.2.2.2.2.1, q.2.2.2.2.2.2.2.2.2.2.2.1, q.2.2.2.2.2.2.2.2.2.2.2.2.1, q.2.2.2.2.2.2.2.2.2.2.2.2.2.1, q.2.2.2.2.2.2.2.2.2.2.2.2.2.2)) (x := -1000000001) (M' := mX7_finds) dX7_write_41 lkX7_44 mcX7_finds hp_62 rfl (ev_X7_finds (j := 0) (by decide) (by decide)) rfl rfl (Nat.le_of_ble_eq_true rfl) ?_
      refine xg_i2l (pc := 44) dX7_write_44 ?_
      exact xg_lret (pc := 45) dX7_write_45 rfl (rpR (by refine (if_pos (sn_r hsn)).trans ((if_neg (by rw [sn_e hsn]; exact hm)).trans ?_); rw [sn_e hsn]; exact if_neg (fun z => c_26 (le_pred hz0.1 z))) eq65.rf)
theorem ly3 {g : Nat → Int64} {f : Nat → Int32} (n : Nat) : itF (lyF g) n f 3 = f 3 := itF_o n f (fun t _ h => by unfold lyF; split; exact pk_un (by omega); rfl)
theorem ly4 {g : Nat → Int64} {f : Nat → Int32} (n : Nat) (hn : n ≤ 8) : itF (lyF g) n f 4 = f 4 := itF_o n f (fun t _ h => by unfold lyF; split; exact pk_un (by omega); rfl)
set_option maxRecDepth 100000 in
theorem lp_X7_lays {sn : Nat} (okp : okP mf) (hsn : sn ≤ 3) (hz0 : q.2.2.2.2.2.2.2.2.2.2.2.2.2.1 sn = nI (ix (q.2.2.2.2.2.2.2.2.2.2.2.2.2.1 sn)) ∧ ix (q.2.2.2.2.2.2.2.2.2.2.2.2.2.1 sn) ≤ 40) : ∀ (k tq : Nat), tq + k = min (ix (q.2.2.2.2.2.2.2.2.2.2.2.2.2.1 sn)) (nT mf) → ∀ (l5 : Option Value), ∀ (l6 : Option Value), xGo X false (d + 3) 0 0 mX7_lays 21 [some (.ref 62), some (.int (nI sn)), some (.int 0), some (.int (nI (lyN (nu q.2.2.2.2.2.2.2.2.2.2.2.2.2.2 sn) tq))), some (.int (nI tq)), l5, l6] [] (hp lk o (itF (lyF (nu q.2.2.2.2.2.2.2.2.2.2.2.2.2.2 sn)) tq mf) wf q) (RP lk o (.int (nI (lyN (nu q.2.2.2.2.2.2.2.2.2.2.2.2.2.2 sn) (min (ix (q.2.2.2.2.2.2.2.2.2.2.2.2.2.1 sn)) (nT mf)))), q, itF (lyF (nu q.2.2.2.2.2.2.2.2.2.2.2.2.2.2 sn)) (min (ix (q.2.2.2.2.2.2.2.2.2.2.2.2.2.1 sn)) (nT mf)) mf)) := by
  intro k
  induction k with
  | zero =>
    intro tq ht l5 l6
    have h8 := okp.h8
    have hz9 := hz0.2
    have etq : tq = min (ix (q.2.2.2.2.2.2.2.2.2.2.2.2.2.1 sn)) (nT mf) := by omega
    subst etq
    refine xg_iload (pc := 21) dX7_lays_21 rfl ?_
    refine xg_aload_n (pc := 23) dX7_lays_23 rfl ?_
    refine xg_get (pc := 24) dX7_lays_24 flX7_35 hp_62 rfl ?_
    refine xg_iload_n (pc := 27) dX7_lays_27 rfl ?_
    refine xg_iald (pc := 28) sn dX7_lays_28 hp_71 rfl (by omega) (by decide) ?_
    refine xg_eq hz0.1 ?_
    refine xg_icmp_ge (pc := 29) (tgt := 93) dX7_lays_29 (by decide) (fun c_29 => ?_) (fun c_29 => ?_)
    ·
      refine xg_iload_n (pc := 93) dX7_lays_93 rfl ?_
      exact xg_iret (pc := 94) dX7_lays_94 rfl (rpR rfl eq65.rf)
    ·
      refine xg_iload (pc := 32) dX7_lays_32 rfl ?_
      refine xg_aload_n (pc := 34) dX7_lays_34 rfl ?_
      refine xg_get (pc := 35) dX7_lays_35 flX7_9 hp_62 rfl ?_
      refine xg_iconst (v := 3) (pc := 38) dX7_lays_38 (by decide) ?_
      refine xg_iald (pc := 39) 3 dX7_lays_39 hp_63 rfl (by omega) (by decide) ?_
      refine xg_eq ((ly3 _).trans okp.1.1.1) ?_
      refine xg_icmp_ge (pc := 40) (tgt := 93) dX7_lays_40 (by decide) (fun c_40 => ?_) (fun c_40 => absurd c_40 (fun zq => zq (nI_le (show nT mf ≤ min (ix (q.2.2.2.2.2.2.2.2.2.2.2.2.2.1 sn)) (nT mf) from by have w1 : ¬ ix (q.2.2.2.2.2.2.2.2.2.2.2.2.2.1 sn) ≤ min (ix (q.2.2.2.2.2.2.2.2.2.2.2.2.2.1 sn)) (nT mf) := fun z => c_29 (nI_le z (by omega)); omega) (by omega))))
      refine xg_iload_n (pc := 93) dX7_lays_93 rfl ?_
      exact xg_iret (pc := 94) dX7_lays_94 rfl (rpR rfl eq65.rf)
  | succ k ih =>
    intro tq ht l5 l6
    have h8 := okp.h8
    have hz9 := hz0.2
    refine xg_iload (pc := 21) dX7_lays_21 rfl ?_
    refine xg_aload_n (pc := 23) dX7_lays_23 rfl ?_
    refine xg_get (pc := 24) dX7_lays_24 flX7_35 hp_62 rfl ?_
    refine xg_iload_n (pc := 27) dX7_lays_27 rfl ?_
    refine xg_iald (pc := 28) sn dX7_lays_28 hp_71 rfl (by omega) (by decide) ?_
    refine xg_eq hz0.1 ?_
    refine xg_icmp_ge (pc := 29) (tgt := 93) dX7_lays_29 (by decide) (fun c_29 => absurd c_29 (nI_ge (by omega) (by omega))) (fun c_29 => ?_)
    refine xg_iload (pc := 32) dX7_lays_32 rfl ?_
    refine xg_aload_n (pc := 34) dX7_lays_34 rfl ?_
    refine xg_get (pc := 35) dX7_lays_35 flX7_9 hp_62 rfl ?_
    refine xg_iconst (v := 3) (pc := 38) dX7_lays_38 (by decide) ?_
    refine xg_iald (pc := 39) 3 dX7_lays_39 hp_63 rfl (by omega) (by decide) ?_
    refine xg_eq ((ly3 _).trans okp.1.1.1) ?_
    refine xg_icmp_ge (pc := 40) (tgt := 93) dX7_lays_40 (by decide) (fun c_40 => absurd c_40 (nI_ge (by omega) (by omega))) (fun c_40 => ?_)
    refine xg_aload_n (pc := 43) dX7_lays_43 rfl ?_
    refine xg_get (pc := 44) dX7_lays_44 flX7_38 hp_62 rfl ?_
    refine xg_bipush (v := 40) (pc := 47) dX7_lays_47 (by decide) ?_
    refine xg_iload_n (pc := 49) dX7_lays_49 rfl ?_
    refine xg_imul (pc := 50) dX7_lays_50 ?_
    refine xg_iload (pc := 51) dX7_lays_51 rfl ?_
    refine xg_iadd (pc := 53) dX7_lays_53 ?_
    refine xg_lald (pc := 54) (40 * sn + tq) dX7_lays_54 hp_72 (by simp only [xlit, nI_add, pk_mul]) (by omega) (by decide) ?_
    refine xg_lstore (pc := 55) (ls' := [some (.ref 62), some (.int (nI sn)), some (.int 0), some (.int (nI (lyN (nu q.2.2.2.2.2.2.2.2.2.2.2.2.2.2 sn) tq))), some (.int (nI tq)), some (.long (q.2.2.2.2.2.2.2.2.2.2.2.2.2.2 (40 * sn + tq))), none]) dX7_lays_55 (by decide) rfl ?_
    refine xg_lload (pc := 57) dX7_lays_57 rfl ?_
    refine xg_iconst (v := 0) (pc := 59) dX7_lays_59 (by decide) ?_
    refine xg_bipush (v := 99) (pc := 60) dX7_lays_60 (by decide) ?_
    refine xg_csI (pc := 62) (h1 := hp lk o (itF (lyF (nu q.2.2.2.2.2.2.2.2.2.2.2.2.2.2 sn)) tq mf) wf q) (x := if Int32.toInt64 0 ≤ (q.2.2.2.2.2.2.2.2.2.2.2.2.2.2 (40 * sn + tq)) ∧ (q.2.2.2.2.2.2.2.2.2.2.2.2.2.2 (40 * sn + tq)) ≤ Int32.toInt64 99 then 1 else 0) (M' := mX7_in) dX7_lays_62 lkX7_48 mcX7_in (ev_X7_in) rfl rfl (Nat.le_of_ble_eq_true rfl) ?_
    refine xg_bz (pc := 65) (tgt := 87) dX7_lays_65 (by decide) (fun c_65 => ?_) (fun c_65 => ?_)
    ·
      refine xg_iinc (pc := 87) (y := nI (tq + 1)) (ls' := [some (.ref 62), some (.int (nI sn)), some (.int 0), some (.int (nI (lyN (nu q.2.2.2.2.2.2.2.2.2.2.2.2.2.2 sn) tq))), some (.int (nI (tq + 1))), some (.long (q.2.2.2.2.2.2.2.2.2.2.2.2.2.2 (40 * sn + tq))), none]) dX7_lays_87 rfl (xinc _) (by decide) rfl ?_
      refine xg_goto (pc := 90) (tgt := 21) dX7_lays_90 (by decide) ?_
      have e1 : itF (lyF (nu q.2.2.2.2.2.2.2.2.2.2.2.2.2.2 sn)) (tq + 1) mf = itF (lyF (nu q.2.2.2.2.2.2.2.2.2.2.2.2.2.2 sn)) tq mf := if_neg c_65
      have e2 : lyN (nu q.2.2.2.2.2.2.2.2.2.2.2.2.2.2 sn) (tq + 1) = lyN (nu q.2.2.2.2.2.2.2.2.2.2.2.2.2.2 sn) tq := if_neg c_65
      have z := ih (tq + 1) (by omega)
      rw [e1, e2] at z
      exact z _ _
    ·
      refine xg_aload_n (pc := 68) dX7_lays_68 rfl ?_
      refine xg_get (pc := 69) dX7_lays_69 flX7_9 hp_62 rfl ?_
      refine xg_iconst (v := 5) (pc := 72) dX7_lays_72 (by decide) ?_
      refine xg_iconst (v := 5) (pc := 73) dX7_lays_73 (by decide) ?_
      refine xg_iload (pc := 74) dX7_lays_74 rfl ?_
      refine xg_imul (pc := 76) dX7_lays_76 ?_
      refine xg_iadd (pc := 77) dX7_lays_77 ?_
      refine xg_iconst (v := 3) (pc := 78) dX7_lays_78 (by decide) ?_
      refine xg_iadd (pc := 79) dX7_lays_79 ?_
      refine xg_lload (pc := 80) dX7_lays_80 rfl ?_
      refine xg_l2i (pc := 82) dX7_lays_82 ?_
      refine xg_iast (pc := 83) (h' := hp lk o (upd (itF (lyF (nu q.2.2.2.2.2.2.2.2.2.2.2.2.2.2 sn)) tq mf) (5 + 5 * tq + 3) (Int64.toInt32 (q.2.2.2.2.2.2.2.2.2.2.2.2.2.2 (40 * sn + tq)))) wf q) (5 + 5 * tq + 3) dX7_lays_83 hp_63 (by simp only [xlit, nI_add, pk_mul]) (by omega) (by decide) hs_mf ?_
      refine xg_iinc (pc := 84) (y := nI (lyN (nu q.2.2.2.2.2.2.2.2.2.2.2.2.2.2 sn) tq + 1)) (ls' := [some (.ref 62), some (.int (nI sn)), some (.int 0), some (.int (nI (lyN (nu q.2.2.2.2.2.2.2.2.2.2.2.2.2.2 sn) tq + 1))), some (.int (nI tq)), some (.long (q.2.2.2.2.2.2.2.2.2.2.2.2.2.2 (40 * sn + tq))), none]) dX7_lays_84 rfl (xinc _) (by decide) rfl ?_
      refine xg_iinc (pc := 87) (y := nI (tq + 1)) (ls' := [some (.ref 62), some (.int (nI sn)), some (.int 0), some (.int (nI (lyN (nu q.2.2.2.2.2.2.2.2.2.2.2.2.2.2 sn) tq + 1))), some (.int (nI (tq + 1))), some (.long (q.2.2.2.2.2.2.2.2.2.2.2.2.2.2 (40 * sn + tq))), none]) dX7_lays_87 rfl (xinc _) (by decide) rfl ?_
      refine xg_goto (pc := 90) (tgt := 21) dX7_lays_90 (by decide) ?_
      have e1 : itF (lyF (nu q.2.2.2.2.2.2.2.2.2.2.2.2.2.2 sn)) (tq + 1) mf = upd (itF (lyF (nu q.2.2.2.2.2.2.2.2.2.2.2.2.2.2 sn)) tq mf) (5 + 5 * tq + 3) (Int64.toInt32 ((nu q.2.2.2.2.2.2.2.2.2.2.2.2.2.2 sn) tq)) := if_pos c_65
      have e2 : lyN (nu q.2.2.2.2.2.2.2.2.2.2.2.2.2.2 sn) (tq + 1) = lyN (nu q.2.2.2.2.2.2.2.2.2.2.2.2.2.2 sn) tq + 1 := if_pos c_65
      have z := ih (tq + 1) (by omega)
      rw [e1, e2] at z
      exact z _ _
set_option maxRecDepth 100000 in
set_option maxHeartbeats 4000000 in
theorem ev_X7_lays {s : Int32} (okp : okP mf) (okz : okS (qZ q)) : xEv X false (d + 3) 0 0 mX7_lays [.ref 62, .int s] (hp lk o mf wf q) (RP lk o (r_lays q mf s)) := by
  refine xEv.of (ls := [some (.ref 62), some (.int s), none, none, none, none, none]) mcX7_lays.1.2.2.2.2 (Nat.le_of_ble_eq_true rfl) rfl ?_
  rcases nt3 (s := s) (g := q.2.2.2.2.2.2.2.2.2.2.2.2.1) with hs | ⟨sn, hsn, rfl, hm⟩ | ⟨sn, hsn, rfl, hm⟩
  ·
    refine xg_aload_n (pc := 0) dX7_lays_0 rfl ?_
    refine xg_iload_n (pc := 1) dX7_lays_1 rfl ?_
    refine xg_cvI (pc := 2) (h1 := hp lk o mf wf q) (x := -1000000001) (M' := mX7_notThere) dX7_lays_2 lkX7_232 mcX7_notThere hp_62 rfl (ev_nt_b hs) rfl rfl (Nat.le_of_ble_eq_true rfl) ?_
    refine xg_istore_n (pc := 5) (ls' := [some (.ref 62), some (.int s), some (.int (-1000000001)), none, none, none, none]) dX7_lays_5 (by decide) rfl ?_
    refine xg_iload_n (pc := 6) dX7_lays_6 rfl ?_
    refine xg_if_eq (pc := 7) (tgt := 16) dX7_lays_7 (by decide) (fun c_7 => absurd c_7 (by decide)) (fun c_7 => ?_)
    refine xg_aload_n (pc := 10) dX7_lays_10 rfl ?_
    refine xg_iload_n (pc := 11) dX7_lays_11 rfl ?_
    refine xg_cvI (pc := 12) (h1 := hp lk o mf wf (q.1, q.2.1, upd q.2.2.1 0 (q.2.2.1 0 + 1), q.2.2.2.1, q.2.2.2.2.1, q.2.2.2.2.2.1, q.2.2.2.2.2.2.1, q.2.2.2.2.2.2.2.1, q.2.2.2.2.2.2.2.2.1, q.2.2.2.2.2.2.2.2.2.1, q.2.2.2.2.2.2.2.2.2.2.1, q.2.2.2.2.2.2.2.2.2.2.2.1, q.2.2.2.2.2.2.2.2.2.2.2.2.1, q.2.2.2.2.2.2.2.2.2.2.2.2.2.1, q.2.2.2.2.2.2.2.2.2.2.2.2.2.2)) (x := -1000000001) (M' := mX7_finds) dX7_lays_12 lkX7_44 mcX7_finds hp_62 rfl (ev_X7_finds (j := 0) (by decide) (by decide)) rfl rfl (Nat.le_of_ble_eq_true rfl) ?_
    exact xg_iret (pc := 15) dX7_lays_15 rfl (rpR (by exact if_neg hs) eq65.rf)
  ·
    refine xg_aload_n (pc := 0) dX7_lays_0 rfl ?_
    refine xg_iload_n (pc := 1) dX7_lays_1 rfl ?_
    refine xg_cvI (pc := 2) (h1 := hp lk o mf wf q) (x := -1000000006) (M' := mX7_notThere) dX7_lays_2 lkX7_232 mcX7_notThere hp_62 rfl (ev_nt_m hsn hm) rfl rfl (Nat.le_of_ble_eq_true rfl) ?_
    refine xg_istore_n (pc := 5) (ls' := [some (.ref 62), some (.int (nI sn)), some (.int (-1000000006)), none, none, none, none]) dX7_lays_5 (by decide) rfl ?_
    refine xg_iload_n (pc := 6) dX7_lays_6 rfl ?_
    refine xg_if_eq (pc := 7) (tgt := 16) dX7_lays_7 (by decide) (fun c_7 => absurd c_7 (by decide)) (fun c_7 => ?_)
    refine xg_aload_n (pc := 10) dX7_lays_10 rfl ?_
    refine xg_iload_n (pc := 11) dX7_lays_11 rfl ?_
    refine xg_cvI (pc := 12) (h1 := hp lk o mf wf (q.1, q.2.1, upd q.2.2.1 5 (q.2.2.1 5 + 1), q.2.2.2.1, q.2.2.2.2.1, q.2.2.2.2.2.1, q.2.2.2.2.2.2.1, q.2.2.2.2.2.2.2.1, q.2.2.2.2.2.2.2.2.1, q.2.2.2.2.2.2.2.2.2.1, q.2.2.2.2.2.2.2.2.2.2.1, q.2.2.2.2.2.2.2.2.2.2.2.1, q.2.2.2.2.2.2.2.2.2.2.2.2.1, q.2.2.2.2.2.2.2.2.2.2.2.2.2.1, q.2.2.2.2.2.2.2.2.2.2.2.2.2.2)) (x := -1000000006) (M' := mX7_finds) dX7_lays_12 lkX7_44 mcX7_finds hp_62 rfl (ev_X7_finds (j := 5) (by decide) (by decide)) rfl rfl (Nat.le_of_ble_eq_true rfl) ?_
    exact xg_iret (pc := 15) dX7_lays_15 rfl (rpR (by exact (if_pos (sn_r hsn)).trans (if_pos (by rw [sn_e hsn]; exact hm))) eq65.rf)
  ·
    refine xg_aload_n (pc := 0) dX7_lays_0 rfl ?_
    refine xg_iload_n (pc := 1) dX7_lays_1 rfl ?_
    refine xg_cvI (pc := 2) (h1 := hp lk o mf wf q) (x := 0) (M' := mX7_notThere) dX7_lays_2 lkX7_232 mcX7_notThere hp_62 rfl (ev_nt_0 hsn hm) rfl rfl (Nat.le_of_ble_eq_true rfl) ?_
    refine xg_istore_n (pc := 5) (ls' := [some (.ref 62), some (.int (nI sn)), some (.int 0), none, none, none, none]) dX7_lays_5 (by decide) rfl ?_
    refine xg_iload_n (pc := 6) dX7_lays_6 rfl ?_
    refine xg_if_eq (pc := 7) (tgt := 16) dX7_lays_7 (by decide) (fun c_7 => ?_) (fun c_7 => absurd c_7 (by decide))
    refine xg_iconst (v := 0) (pc := 16) dX7_lays_16 (by decide) ?_
    refine xg_istore_n (pc := 17) (ls' := [some (.ref 62), some (.int (nI sn)), some (.int 0), some (.int 0), none, none, none]) dX7_lays_17 (by decide) rfl ?_
    refine xg_iconst (v := 0) (pc := 18) dX7_lays_18 (by decide) ?_
    refine xg_istore (pc := 19) (ls' := [some (.ref 62), some (.int (nI sn)), some (.int 0), some (.int 0), some (.int 0), none, none]) dX7_lays_19 (by decide) rfl ?_
    have hz0 := okz sn (by omega)
    rw [show r_lays q mf (nI sn) = (.int (nI (lyN (nu q.2.2.2.2.2.2.2.2.2.2.2.2.2.2 sn) (min (ix (q.2.2.2.2.2.2.2.2.2.2.2.2.2.1 sn)) (nT mf)))), q, itF (lyF (nu q.2.2.2.2.2.2.2.2.2.2.2.2.2.2 sn)) (min (ix (q.2.2.2.2.2.2.2.2.2.2.2.2.2.1 sn)) (nT mf)) mf) from by unfold r_lays; rw [if_pos (sn_r hsn), sn_e hsn, if_neg hm]]
    exact lp_X7_lays okp hsn hz0 (min (ix (q.2.2.2.2.2.2.2.2.2.2.2.2.2.1 sn)) (nT mf)) 0 (by omega) _ _
set_option maxRecDepth 100000 in
theorem ev_na_b {s b : Int32} (hs : ¬ (0 ≤ s ∧ s ≤ 3)) : xDv X false (d + 3) mX7_notAsked [.ref 62, .int s, .int b] (hp lk o mf wf q) [.int (-1000000001)] (hp lk o mf wf q) := by
  refine xDv.of (ls := [some (.ref 62), some (.int s), some (.int b), none]) mcX7_notAsked.1.2.2.2.2 (Nat.le_of_ble_eq_true rfl) rfl ?_
  refine xg_aload_n (pc := 0) dX7_notAsked_0 rfl ?_
  refine xg_iload_n (pc := 1) dX7_notAsked_1 rfl ?_
  refine xg_cvI (pc := 2) (h1 := hp lk o mf wf q) (x := -1000000001) (M' := mX7_notThere) dX7_notAsked_2 lkX7_232 mcX7_notThere hp_62 rfl (ev_nt_b hs) rfl rfl (Nat.le_of_ble_eq_true rfl) ?_
  refine xg_istore_n (pc := 5) (ls' := [some (.ref 62), some (.int s), some (.int b), some (.int (-1000000001))]) dX7_notAsked_5 (by decide) rfl ?_
  refine xg_iload_n (pc := 6) dX7_notAsked_6 rfl ?_
  refine xg_if_ne (pc := 7) (tgt := 23) dX7_notAsked_7 (by decide) (fun c_7 => ?_) (fun c_7 => absurd c_7 (by decide))
  refine xg_iload_n (pc := 23) dX7_notAsked_23 rfl ?_
  exact xg_iret (pc := 24) dX7_notAsked_24 rfl (⟨by rfl, rfl⟩)
set_option maxRecDepth 100000 in
theorem ev_na_m {sn : Nat} {b : Int32} (hs : sn ≤ 3) (hb : q.2.2.2.2.2.2.2.2.2.2.2.2.1 sn = 0) : xDv X false (d + 3) mX7_notAsked [.ref 62, .int (nI sn), .int b] (hp lk o mf wf q) [.int (-1000000006)] (hp lk o mf wf q) := by
  refine xDv.of (ls := [some (.ref 62), some (.int (nI sn)), some (.int b), none]) mcX7_notAsked.1.2.2.2.2 (Nat.le_of_ble_eq_true rfl) rfl ?_
  refine xg_aload_n (pc := 0) dX7_notAsked_0 rfl ?_
  refine xg_iload_n (pc := 1) dX7_notAsked_1 rfl ?_
  refine xg_cvI (pc := 2) (h1 := hp lk o mf wf q) (x := -1000000006) (M' := mX7_notThere) dX7_notAsked_2 lkX7_232 mcX7_notThere hp_62 rfl (ev_nt_m hs hb) rfl rfl (Nat.le_of_ble_eq_true rfl) ?_
  refine xg_istore_n (pc := 5) (ls' := [some (.ref 62), some (.int (nI sn)), some (.int b), some (.int (-1000000006))]) dX7_notAsked_5 (by decide) rfl ?_
  refine xg_iload_n (pc := 6) dX7_notAsked_6 rfl ?_
  refine xg_if_ne (pc := 7) (tgt := 23) dX7_notAsked_7 (by decide) (fun c_7 => ?_) (fun c_7 => absurd c_7 (by decide))
  refine xg_iload_n (pc := 23) dX7_notAsked_23 rfl ?_
  exact xg_iret (pc := 24) dX7_notAsked_24 rfl (⟨by rfl, rfl⟩)
set_option maxRecDepth 100000 in
theorem ev_na_x {sn : Nat} {b : Int32} (ok : okN mf) (hs : sn ≤ 3) (hb : ¬ q.2.2.2.2.2.2.2.2.2.2.2.2.1 sn = 0) (hx : ¬ (0 ≤ b ∧ b < mf 4)) : xDv X false (d + 3) mX7_notAsked [.ref 62, .int (nI sn), .int b] (hp lk o mf wf q) [.int (-1000000001)] (hp lk o mf wf q) := by
  refine xDv.of (ls := [some (.ref 62), some (.int (nI sn)), some (.int b), none]) mcX7_notAsked.1.2.2.2.2 (Nat.le_of_ble_eq_true rfl) rfl ?_
  refine xg_aload_n (pc := 0) dX7_notAsked_0 rfl ?_
  refine xg_iload_n (pc := 1) dX7_notAsked_1 rfl ?_
  refine xg_cvI (pc := 2) (h1 := hp lk o mf wf q) (x := 0) (M' := mX7_notThere) dX7_notAsked_2 lkX7_232 mcX7_notThere hp_62 rfl (ev_nt_0 hs hb) rfl rfl (Nat.le_of_ble_eq_true rfl) ?_
  refine xg_istore_n (pc := 5) (ls' := [some (.ref 62), some (.int (nI sn)), some (.int b), some (.int 0)]) dX7_notAsked_5 (by decide) rfl ?_
  refine xg_iload_n (pc := 6) dX7_notAsked_6 rfl ?_
  refine xg_if_ne (pc := 7) (tgt := 23) dX7_notAsked_7 (by decide) (fun c_7 => absurd c_7 (by decide)) (fun c_7 => ?_)
  refine xg_aload_n (pc := 10) dX7_notAsked_10 rfl ?_
  refine xg_iload_n (pc := 11) dX7_notAsked_11 rfl ?_
  refine xg_cvI (pc := 12) (h1 := hp lk o mf wf q) (x := if 0 ≤ b ∧ b < mf 4 then 1 else 0) (M' := mX7_isBoat) dX7_notAsked_12 lkX7_117 mcX7_isBoat hp_62 rfl (ev_isB ok) rfl rfl (Nat.le_of_ble_eq_true rfl) ?_
  refine xg_bnz (pc := 15) (tgt := 23) dX7_notAsked_15 (by decide) (fun c_15 => absurd c_15 hx) (fun c_15 => ?_)
  refine xg_ldc (v := -1000000001) (pc := 18) dX7_notAsked_18 ccX7_42 ?_
  refine xg_goto (pc := 20) (tgt := 24) dX7_notAsked_20 (by decide) ?_
  exact xg_iret (pc := 24) dX7_notAsked_24 rfl (⟨by rfl, rfl⟩)
set_option maxRecDepth 100000 in
theorem ev_na_0 {sn : Nat} {b : Int32} (ok : okN mf) (hs : sn ≤ 3) (hb : ¬ q.2.2.2.2.2.2.2.2.2.2.2.2.1 sn = 0) (hx : 0 ≤ b ∧ b < mf 4) : xDv X false (d + 3) mX7_notAsked [.ref 62, .int (nI sn), .int b] (hp lk o mf wf q) [.int 0] (hp lk o mf wf q) := by
  refine xDv.of (ls := [some (.ref 62), some (.int (nI sn)), some (.int b), none]) mcX7_notAsked.1.2.2.2.2 (Nat.le_of_ble_eq_true rfl) rfl ?_
  refine xg_aload_n (pc := 0) dX7_notAsked_0 rfl ?_
  refine xg_iload_n (pc := 1) dX7_notAsked_1 rfl ?_
  refine xg_cvI (pc := 2) (h1 := hp lk o mf wf q) (x := 0) (M' := mX7_notThere) dX7_notAsked_2 lkX7_232 mcX7_notThere hp_62 rfl (ev_nt_0 hs hb) rfl rfl (Nat.le_of_ble_eq_true rfl) ?_
  refine xg_istore_n (pc := 5) (ls' := [some (.ref 62), some (.int (nI sn)), some (.int b), some (.int 0)]) dX7_notAsked_5 (by decide) rfl ?_
  refine xg_iload_n (pc := 6) dX7_notAsked_6 rfl ?_
  refine xg_if_ne (pc := 7) (tgt := 23) dX7_notAsked_7 (by decide) (fun c_7 => absurd c_7 (by decide)) (fun c_7 => ?_)
  refine xg_aload_n (pc := 10) dX7_notAsked_10 rfl ?_
  refine xg_iload_n (pc := 11) dX7_notAsked_11 rfl ?_
  refine xg_cvI (pc := 12) (h1 := hp lk o mf wf q) (x := if 0 ≤ b ∧ b < mf 4 then 1 else 0) (M' := mX7_isBoat) dX7_notAsked_12 lkX7_117 mcX7_isBoat hp_62 rfl (ev_isB ok) rfl rfl (Nat.le_of_ble_eq_true rfl) ?_
  refine xg_bnz (pc := 15) (tgt := 23) dX7_notAsked_15 (by decide) (fun c_15 => ?_) (fun c_15 => absurd c_15 (fun q => q hx))
  refine xg_iload_n (pc := 23) dX7_notAsked_23 rfl ?_
  exact xg_iret (pc := 24) dX7_notAsked_24 rfl (⟨by rfl, rfl⟩)
theorem na4 {s b : Int32} {g f : Nat → Int32} (ok : okN f) : (¬ (0 ≤ s ∧ s ≤ 3)) ∨ (∃ sn, sn ≤ 3 ∧ s = nI sn ∧ g sn = 0) ∨ (∃ sn, sn ≤ 3 ∧ s = nI sn ∧ ¬ g sn = 0 ∧ ¬ (0 ≤ b ∧ b < f 4)) ∨ (∃ sn bn, sn ≤ 3 ∧ s = nI sn ∧ ¬ g sn = 0 ∧ (0 ≤ b ∧ b < f 4) ∧ bn < nB f ∧ b = nI bn) := by
  rcases nt3 (s := s) (g := g) with h | h | ⟨sn, h1, h2, h3⟩
  · exact Or.inl h
  · exact Or.inr (Or.inl h)
  · by_cases hb : 0 ≤ b ∧ b < f 4
    · obtain ⟨bn, h4, h5⟩ := idxB ok hb
      exact Or.inr (Or.inr (Or.inr ⟨sn, bn, h1, h2, h3, hb, h4, h5⟩))
    · exact Or.inr (Or.inr (Or.inl ⟨sn, h1, h2, h3, hb⟩))
set_option maxRecDepth 100000 in
theorem lp_X7_book {sn bn : Nat} (okp : okP mf) (hsn : sn ≤ 3) (hz0 : q.2.2.2.2.2.2.2.2.2.2.2.2.2.1 sn = nI (ix (q.2.2.2.2.2.2.2.2.2.2.2.2.2.1 sn)) ∧ ix (q.2.2.2.2.2.2.2.2.2.2.2.2.2.1 sn) ≤ 40) (hbn : bn < nB mf) : ∀ (k tq : Nat), tq + k = ix (q.2.2.2.2.2.2.2.2.2.2.2.2.2.1 sn) → xGo X false (d + 7) 0 0 mX7_book 24 [some (.ref 62), some (.int (nI sn)), some (.int (nI bn)), some (.int 0), some (.int (nI tq))] [] (hp lk o (hsC tq mf) (cpF 65 mf wf) (q.1, q.2.1, q.2.2.1, q.2.2.2.1, q.2.2.2.2.1, q.2.2.2.2.2.1, q.2.2.2.2.2.2.1, q.2.2.2.2.2.2.2.1, q.2.2.2.2.2.2.2.2.1, q.2.2.2.2.2.2.2.2.2.1, q.2.2.2.2.2.2.2.2.2.2.1, q.2.2.2.2.2.2.2.2.2.2.2.1, q.2.2.2.2.2.2.2.2.2.2.2.2.1, q.2.2.2.2.2.2.2.2.2.2.2.2.2.1, bkQ (q.2.2.2.2.2.2.2.2.2.2.2.2.1 sn) (fun i => hsC i mf (45 + 4 * bn + 2)) (40 * sn) tq q.2.2.2.2.2.2.2.2.2.2.2.2.2.2)) (RP lk o (.int (nI (ix (q.2.2.2.2.2.2.2.2.2.2.2.2.2.1 sn))), qS q (qB q) (qZ q) (bkQ (qB q sn) (fun i => hsC i mf (45 + 4 * bn + 2)) (40 * sn) (ix (q.2.2.2.2.2.2.2.2.2.2.2.2.2.1 sn)) (qC q)), mf)) := by
  intro k
  induction k with
  | zero =>
    intro tq ht
    have hz9 := hz0.2
    have etq : tq = ix (q.2.2.2.2.2.2.2.2.2.2.2.2.2.1 sn) := by omega
    subst etq
    refine xg_iload (pc := 24) dX7_book_24 rfl ?_
    refine xg_aload_n (pc := 26) dX7_book_26 rfl ?_
    refine xg_get (pc := 27) dX7_book_27 flX7_35 hp_62 rfl ?_
    refine xg_iload_n (pc := 30) dX7_book_30 rfl ?_
    refine xg_iald (pc := 31) sn dX7_book_31 hp_71 rfl (by omega) (by decide) ?_
    refine xg_eq hz0.1 ?_
    refine xg_icmp_ge (pc := 32) (tgt := 73) dX7_book_32 (by decide) (fun c_32 => ?_) (fun c_32 => absurd c_32 (fun q => q (nI_le (by omega) (by omega))))
    refine xg_aload_n (pc := 73) dX7_book_73 rfl ?_
    refine xg_cvV (pc := 74) (h1 := hp lk o (cpF 65 (cpF 65 mf wf) (hsC (ix (q.2.2.2.2.2.2.2.2.2.2.2.2.2.1 sn)) mf)) (cpF 65 mf wf) (q.1, q.2.1, q.2.2.1, q.2.2.2.1, q.2.2.2.2.1, q.2.2.2.2.2.1, q.2.2.2.2.2.2.1, q.2.2.2.2.2.2.2.1, q.2.2.2.2.2.2.2.2.1, q.2.2.2.2.2.2.2.2.2.1, q.2.2.2.2.2.2.2.2.2.2.1, q.2.2.2.2.2.2.2.2.2.2.2.1, q.2.2.2.2.2.2.2.2.2.2.2.2.1, q.2.2.2.2.2.2.2.2.2.2.2.2.2.1, bkQ (q.2.2.2.2.2.2.2.2.2.2.2.2.1 sn) (fun i => hsC i mf (45 + 4 * bn + 2)) (40 * sn) (ix (q.2.2.2.2.2.2.2.2.2.2.2.2.2.1 sn)) q.2.2.2.2.2.2.2.2.2.2.2.2.2.2)) (M' := mX7_putsBack) dX7_book_74 lkX7_150 mcX7_putsBack hp_62 rfl (ev_X7_putsBack) rfl rfl (Nat.le_of_ble_eq_true rfl) ?_
    refine xg_aload_n (pc := 77) dX7_book_77 rfl ?_
    refine xg_get (pc := 78) dX7_book_78 flX7_35 hp_62 rfl ?_
    refine xg_iload_n (pc := 81) dX7_book_81 rfl ?_
    refine xg_iald (pc := 82) sn dX7_book_82 hp_71 rfl (by omega) (by decide) ?_
    refine xg_eq hz0.1 ?_
    exact xg_iret (pc := 83) dX7_book_83 rfl (rpR rfl eq65_cp)
  | succ k ih =>
    intro tq ht
    have hz9 := hz0.2
    have h5 := okp.h5
    refine xg_iload (pc := 24) dX7_book_24 rfl ?_
    refine xg_aload_n (pc := 26) dX7_book_26 rfl ?_
    refine xg_get (pc := 27) dX7_book_27 flX7_35 hp_62 rfl ?_
    refine xg_iload_n (pc := 30) dX7_book_30 rfl ?_
    refine xg_iald (pc := 31) sn dX7_book_31 hp_71 rfl (by omega) (by decide) ?_
    refine xg_eq hz0.1 ?_
    refine xg_icmp_ge (pc := 32) (tgt := 73) dX7_book_32 (by decide) (fun c_32 => absurd c_32 (nI_ge (by omega) (by omega))) (fun c_32 => ?_)
    refine xg_aload_n (pc := 35) dX7_book_35 rfl ?_
    refine xg_get (pc := 36) dX7_book_36 flX7_38 hp_62 rfl ?_
    refine xg_bipush (v := 40) (pc := 39) dX7_book_39 (by decide) ?_
    refine xg_iload_n (pc := 41) dX7_book_41 rfl ?_
    refine xg_imul (pc := 42) dX7_book_42 ?_
    refine xg_iload (pc := 43) dX7_book_43 rfl ?_
    refine xg_iadd (pc := 45) dX7_book_45 ?_
    refine xg_aload_n (pc := 46) dX7_book_46 rfl ?_
    refine xg_get (pc := 47) dX7_book_47 flX7_32 hp_62 rfl ?_
    refine xg_iload_n (pc := 50) dX7_book_50 rfl ?_
    refine xg_iald (pc := 51) sn dX7_book_51 hp_70 rfl (by omega) (by decide) ?_
    refine xg_aload_n (pc := 52) dX7_book_52 rfl ?_
    refine xg_iload_n (pc := 53) dX7_book_53 rfl ?_
    refine xg_iconst (v := 2) (pc := 54) dX7_book_54 (by decide) ?_
    refine xg_cvI (pc := 55) (h1 := hp lk o (hsC tq mf) (cpF 65 mf wf) (q.1, q.2.1, q.2.2.1, q.2.2.2.1, q.2.2.2.2.1, q.2.2.2.2.2.1, q.2.2.2.2.2.2.1, q.2.2.2.2.2.2.2.1, q.2.2.2.2.2.2.2.2.1, q.2.2.2.2.2.2.2.2.2.1, q.2.2.2.2.2.2.2.2.2.2.1, q.2.2.2.2.2.2.2.2.2.2.2.1, q.2.2.2.2.2.2.2.2.2.2.2.2.1, q.2.2.2.2.2.2.2.2.2.2.2.2.2.1, bkQ (q.2.2.2.2.2.2.2.2.2.2.2.2.1 sn) (fun i => hsC i mf (45 + 4 * bn + 2)) (40 * sn) tq q.2.2.2.2.2.2.2.2.2.2.2.2.2.2)) (x := (hsC tq mf) (45 + 4 * bn + 2)) (M' := mX7_has) dX7_book_55 lkX7_77 mcX7_has hp_62 rfl (ev_X7_has (j := bn) (w := 2) (by omega)) rfl rfl (Nat.le_of_ble_eq_true rfl) ?_
    refine xg_i2l (pc := 58) dX7_book_58 ?_
    refine xg_csL (pc := 59) (h1 := hp lk o (hsC tq mf) (cpF 65 mf wf) (q.1, q.2.1, q.2.2.1, q.2.2.2.1, q.2.2.2.2.1, q.2.2.2.2.2.1, q.2.2.2.2.2.2.1, q.2.2.2.2.2.2.2.1, q.2.2.2.2.2.2.2.2.1, q.2.2.2.2.2.2.2.2.2.1, q.2.2.2.2.2.2.2.2.2.2.1, q.2.2.2.2.2.2.2.2.2.2.2.1, q.2.2.2.2.2.2.2.2.2.2.2.2.1, q.2.2.2.2.2.2.2.2.2.2.2.2.2.1, bkQ (q.2.2.2.2.2.2.2.2.2.2.2.2.1 sn) (fun i => hsC i mf (45 + 4 * bn + 2)) (40 * sn) tq q.2.2.2.2.2.2.2.2.2.2.2.2.2.2)) (x := cut (q.2.2.2.2.2.2.2.2.2.2.2.2.1 sn) (Int32.toInt64 ((hsC tq mf) (45 + 4 * bn + 2)))) (M' := mX7_cutTo) dX7_book_59 lkX7_235 mcX7_cutTo (ev_X7_cutTo) rfl rfl (Nat.le_of_ble_eq_true rfl) ?_
    refine xg_last (pc := 62) (h' := hp lk o (hsC tq mf) (cpF 65 mf wf) (q.1, q.2.1, q.2.2.1, q.2.2.2.1, q.2.2.2.2.1, q.2.2.2.2.2.1, q.2.2.2.2.2.2.1, q.2.2.2.2.2.2.2.1, q.2.2.2.2.2.2.2.2.1, q.2.2.2.2.2.2.2.2.2.1, q.2.2.2.2.2.2.2.2.2.2.1, q.2.2.2.2.2.2.2.2.2.2.2.1, q.2.2.2.2.2.2.2.2.2.2.2.2.1, q.2.2.2.2.2.2.2.2.2.2.2.2.2.1, vp_updL (bkQ (q.2.2.2.2.2.2.2.2.2.2.2.2.1 sn) (fun i => hsC i mf (45 + 4 * bn + 2)) (40 * sn) tq q.2.2.2.2.2.2.2.2.2.2.2.2.2.2) (40 * sn + tq) (cut (q.2.2.2.2.2.2.2.2.2.2.2.2.1 sn) (Int32.toInt64 ((hsC tq mf) (45 + 4 * bn + 2)))))) (40 * sn + tq) dX7_book_62 hp_72 (by simp only [xlit, nI_add, pk_mul]) (by omega) (by decide) hs_ce ?_
    refine xg_aload_n (pc := 63) dX7_book_63 rfl ?_
    refine xg_cvV (pc := 64) (h1 := hp lk o (hrC (hsC tq mf)) (cpF 65 mf wf) (q.1, q.2.1, q.2.2.1, q.2.2.2.1, q.2.2.2.2.1, q.2.2.2.2.2.1, q.2.2.2.2.2.2.1, q.2.2.2.2.2.2.2.1, q.2.2.2.2.2.2.2.2.1, q.2.2.2.2.2.2.2.2.2.1, q.2.2.2.2.2.2.2.2.2.2.1, q.2.2.2.2.2.2.2.2.2.2.2.1, q.2.2.2.2.2.2.2.2.2.2.2.2.1, q.2.2.2.2.2.2.2.2.2.2.2.2.2.1, vp_updL (bkQ (q.2.2.2.2.2.2.2.2.2.2.2.2.1 sn) (fun i => hsC i mf (45 + 4 * bn + 2)) (40 * sn) tq q.2.2.2.2.2.2.2.2.2.2.2.2.2.2) (40 * sn + tq) (cut (q.2.2.2.2.2.2.2.2.2.2.2.2.1 sn) (Int32.toInt64 ((hsC tq mf) (45 + 4 * bn + 2)))))) (M' := mX7_hour) dX7_book_64 lkX7_133 mcX7_hour hp_62 rfl (ev_hrC (hs_P okp).2) rfl rfl (Nat.le_of_ble_eq_true rfl) ?_
    refine xg_iinc (pc := 67) (y := nI (tq + 1)) (ls' := [some (.ref 62), some (.int (nI sn)), some (.int (nI bn)), some (.int 0), some (.int (nI (tq + 1)))]) dX7_book_67 rfl (xinc _) (by decide) rfl ?_
    refine xg_goto (pc := 70) (tgt := 24) dX7_book_70 (by decide) ?_
    rw [show vp_updL (bkQ (q.2.2.2.2.2.2.2.2.2.2.2.2.1 sn) (fun i => hsC i mf (45 + 4 * bn + 2)) (40 * sn) tq q.2.2.2.2.2.2.2.2.2.2.2.2.2.2) (40 * sn + tq) (cut (q.2.2.2.2.2.2.2.2.2.2.2.2.1 sn) (Int32.toInt64 ((hsC tq mf) (45 + 4 * bn + 2)))) = bkQ (q.2.2.2.2.2.2.2.2.2.2.2.2.1 sn) (fun i => hsC i mf (45 + 4 * bn + 2)) (40 * sn) (tq + 1) q.2.2.2.2.2.2.2.2.2.2.2.2.2.2 from bkQ_s (h := (fun i => hsC i mf (45 + 4 * bn + 2)))]
    exact ih (tq + 1) (by omega)
set_option maxRecDepth 100000 in
set_option maxHeartbeats 4000000 in
theorem ev_X7_book {s b : Int32} (okp : okP mf) (okz : okS (qZ q)) : xEv X false (d + 7) 0 0 mX7_book [.ref 62, .int s, .int b] (hp lk o mf wf q) (RP lk o (r_book q mf s b)) := by
  refine xEv.of (ls := [some (.ref 62), some (.int s), some (.int b), none, none]) mcX7_book.1.2.2.2.2 (Nat.le_of_ble_eq_true rfl) rfl ?_
  rcases na4 (s := s) (b := b) (g := q.2.2.2.2.2.2.2.2.2.2.2.2.1) (f := mf) okp.1.1 with hs | ⟨sn, hsn, rfl, hm⟩ | ⟨sn, hsn, rfl, hm, hx⟩ | ⟨sn, bn, hsn, rfl, hm, hx, hbn, rfl⟩
  ·
    refine xg_aload_n (pc := 0) dX7_book_0 rfl ?_
    refine xg_iload_n (pc := 1) dX7_book_1 rfl ?_
    refine xg_iload_n (pc := 2) dX7_book_2 rfl ?_
    refine xg_cvI (pc := 3) (h1 := hp lk o mf wf q) (x := -1000000001) (M' := mX7_notAsked) dX7_book_3 lkX7_242 mcX7_notAsked hp_62 rfl (ev_na_b hs) rfl rfl (Nat.le_of_ble_eq_true rfl) ?_
    refine xg_istore_n (pc := 6) (ls' := [some (.ref 62), some (.int s), some (.int b), some (.int (-1000000001)), none]) dX7_book_6 (by decide) rfl ?_
    refine xg_iload_n (pc := 7) dX7_book_7 rfl ?_
    refine xg_if_eq (pc := 8) (tgt := 17) dX7_book_8 (by decide) (fun c_8 => absurd c_8 (by decide)) (fun c_8 => ?_)
    refine xg_aload_n (pc := 11) dX7_book_11 rfl ?_
    refine xg_iload_n (pc := 12) dX7_book_12 rfl ?_
    refine xg_cvI (pc := 13) (h1 := hp lk o mf wf (q.1, q.2.1, upd q.2.2.1 0 (q.2.2.1 0 + 1), q.2.2.2.1, q.2.2.2.2.1, q.2.2.2.2.2.1, q.2.2.2.2.2.2.1, q.2.2.2.2.2.2.2.1, q.2.2.2.2.2.2.2.2.1, q.2.2.2.2.2.2.2.2.2.1, q.2.2.2.2.2.2.2.2.2.2.1, q.2.2.2.2.2.2.2.2.2.2.2.1, q.2.2.2.2.2.2.2.2.2.2.2.2.1, q.2.2.2.2.2.2.2.2.2.2.2.2.2.1, q.2.2.2.2.2.2.2.2.2.2.2.2.2.2)) (x := -1000000001) (M' := mX7_finds) dX7_book_13 lkX7_44 mcX7_finds hp_62 rfl (ev_X7_finds (j := 0) (by decide) (by decide)) rfl rfl (Nat.le_of_ble_eq_true rfl) ?_
    exact xg_iret (pc := 16) dX7_book_16 rfl (rpR (by exact if_neg hs) eq65.rf)
  ·
    refine xg_aload_n (pc := 0) dX7_book_0 rfl ?_
    refine xg_iload_n (pc := 1) dX7_book_1 rfl ?_
    refine xg_iload_n (pc := 2) dX7_book_2 rfl ?_
    refine xg_cvI (pc := 3) (h1 := hp lk o mf wf q) (x := -1000000006) (M' := mX7_notAsked) dX7_book_3 lkX7_242 mcX7_notAsked hp_62 rfl (ev_na_m hsn hm) rfl rfl (Nat.le_of_ble_eq_true rfl) ?_
    refine xg_istore_n (pc := 6) (ls' := [some (.ref 62), some (.int (nI sn)), some (.int b), some (.int (-1000000006)), none]) dX7_book_6 (by decide) rfl ?_
    refine xg_iload_n (pc := 7) dX7_book_7 rfl ?_
    refine xg_if_eq (pc := 8) (tgt := 17) dX7_book_8 (by decide) (fun c_8 => absurd c_8 (by decide)) (fun c_8 => ?_)
    refine xg_aload_n (pc := 11) dX7_book_11 rfl ?_
    refine xg_iload_n (pc := 12) dX7_book_12 rfl ?_
    refine xg_cvI (pc := 13) (h1 := hp lk o mf wf (q.1, q.2.1, upd q.2.2.1 5 (q.2.2.1 5 + 1), q.2.2.2.1, q.2.2.2.2.1, q.2.2.2.2.2.1, q.2.2.2.2.2.2.1, q.2.2.2.2.2.2.2.1, q.2.2.2.2.2.2.2.2.1, q.2.2.2.2.2.2.2.2.2.1, q.2.2.2.2.2.2.2.2.2.2.1, q.2.2.2.2.2.2.2.2.2.2.2.1, q.2.2.2.2.2.2.2.2.2.2.2.2.1, q.2.2.2.2.2.2.2.2.2.2.2.2.2.1, q.2.2.2.2.2.2.2.2.2.2.2.2.2.2)) (x := -1000000006) (M' := mX7_finds) dX7_book_13 lkX7_44 mcX7_finds hp_62 rfl (ev_X7_finds (j := 5) (by decide) (by decide)) rfl rfl (Nat.le_of_ble_eq_true rfl) ?_
    exact xg_iret (pc := 16) dX7_book_16 rfl (rpR (by exact (if_pos (sn_r hsn)).trans (if_pos (by rw [sn_e hsn]; exact hm))) eq65.rf)
  ·
    refine xg_aload_n (pc := 0) dX7_book_0 rfl ?_
    refine xg_iload_n (pc := 1) dX7_book_1 rfl ?_
    refine xg_iload_n (pc := 2) dX7_book_2 rfl ?_
    refine xg_cvI (pc := 3) (h1 := hp lk o mf wf q) (x := -1000000001) (M' := mX7_notAsked) dX7_book_3 lkX7_242 mcX7_notAsked hp_62 rfl (ev_na_x okp.1.1 hsn hm hx) rfl rfl (Nat.le_of_ble_eq_true rfl) ?_
    refine xg_istore_n (pc := 6) (ls' := [some (.ref 62), some (.int (nI sn)), some (.int b), some (.int (-1000000001)), none]) dX7_book_6 (by decide) rfl ?_
    refine xg_iload_n (pc := 7) dX7_book_7 rfl ?_
    refine xg_if_eq (pc := 8) (tgt := 17) dX7_book_8 (by decide) (fun c_8 => absurd c_8 (by decide)) (fun c_8 => ?_)
    refine xg_aload_n (pc := 11) dX7_book_11 rfl ?_
    refine xg_iload_n (pc := 12) dX7_book_12 rfl ?_
    refine xg_cvI (pc := 13) (h1 := hp lk o mf wf (q.1, q.2.1, upd q.2.2.1 0 (q.2.2.1 0 + 1), q.2.2.2.1, q.2.2.2.2.1, q.2.2.2.2.2.1, q.2.2.2.2.2.2.1, q.2.2.2.2.2.2.2.1, q.2.2.2.2.2.2.2.2.1, q.2.2.2.2.2.2.2.2.2.1, q.2.2.2.2.2.2.2.2.2.2.1, q.2.2.2.2.2.2.2.2.2.2.2.1, q.2.2.2.2.2.2.2.2.2.2.2.2.1, q.2.2.2.2.2.2.2.2.2.2.2.2.2.1, q.2.2.2.2.2.2.2.2.2.2.2.2.2.2)) (x := -1000000001) (M' := mX7_finds) dX7_book_13 lkX7_44 mcX7_finds hp_62 rfl (ev_X7_finds (j := 0) (by decide) (by decide)) rfl rfl (Nat.le_of_ble_eq_true rfl) ?_
    exact xg_iret (pc := 16) dX7_book_16 rfl (rpR (by exact (if_pos (sn_r hsn)).trans ((if_neg (by rw [sn_e hsn]; exact hm)).trans (if_neg hx))) eq65.rf)
  ·
    refine xg_aload_n (pc := 0) dX7_book_0 rfl ?_
    refine xg_iload_n (pc := 1) dX7_book_1 rfl ?_
    refine xg_iload_n (pc := 2) dX7_book_2 rfl ?_
    refine xg_cvI (pc := 3) (h1 := hp lk o mf wf q) (x := 0) (M' := mX7_notAsked) dX7_book_3 lkX7_242 mcX7_notAsked hp_62 rfl (ev_na_0 okp.1.1 hsn hm hx) rfl rfl (Nat.le_of_ble_eq_true rfl) ?_
    refine xg_istore_n (pc := 6) (ls' := [some (.ref 62), some (.int (nI sn)), some (.int (nI bn)), some (.int 0), none]) dX7_book_6 (by decide) rfl ?_
    refine xg_iload_n (pc := 7) dX7_book_7 rfl ?_
    refine xg_if_eq (pc := 8) (tgt := 17) dX7_book_8 (by decide) (fun c_8 => ?_) (fun c_8 => absurd c_8 (by decide))
    refine xg_aload_n (pc := 17) dX7_book_17 rfl ?_
    refine xg_cvV (pc := 18) (h1 := hp lk o mf (cpF 65 mf wf) q) (M' := mX7_thinks) dX7_book_18 lkX7_147 mcX7_thinks hp_62 rfl (ev_X7_thinks) rfl rfl (Nat.le_of_ble_eq_true rfl) ?_
    refine xg_iconst (v := 0) (pc := 21) dX7_book_21 (by decide) ?_
    refine xg_istore (pc := 22) (ls' := [some (.ref 62), some (.int (nI sn)), some (.int (nI bn)), some (.int 0), some (.int 0)]) dX7_book_22 (by decide) rfl ?_
    have hz0 := okz sn (by omega)
    have h5 := okp.h5
    have ebn : ix (nI bn) = bn := nI_clamp (by omega)
    rw [show r_book q mf (nI sn) (nI bn) = (.int (nI (ix (q.2.2.2.2.2.2.2.2.2.2.2.2.2.1 sn))), qS q (qB q) (qZ q) (bkQ (qB q sn) (fun i => hsC i mf (45 + 4 * bn + 2)) (40 * sn) (ix (q.2.2.2.2.2.2.2.2.2.2.2.2.2.1 sn)) (qC q)), mf) from by unfold r_book; rw [if_pos (sn_r hsn), sn_e hsn, if_neg hm, if_pos hx, ebn, ← hz0.1]]
    have z := lp_X7_book (X := X) (d := d) (lk := lk) (o := o) (mf := mf) (wf := wf) (q := q) okp hsn hz0 hbn (ix (q.2.2.2.2.2.2.2.2.2.2.2.2.2.1 sn)) 0 (by omega)
    rw [bkQ_0] at z
    exact z
set_option maxRecDepth 100000 in
theorem lp_X7_isBook {sn bn : Nat} (okp : okP mf) (hsn : sn ≤ 3) (hz0 : q.2.2.2.2.2.2.2.2.2.2.2.2.2.1 sn = nI (ix (q.2.2.2.2.2.2.2.2.2.2.2.2.2.1 sn)) ∧ ix (q.2.2.2.2.2.2.2.2.2.2.2.2.2.1 sn) ≤ 40) (hbn : bn < nB mf) : ∀ (k tq : Nat), tq + k = ix (q.2.2.2.2.2.2.2.2.2.2.2.2.2.1 sn) → xGo X false (d + 7) 0 0 mX7_isBook 5 [some (.ref 62), some (.int (nI sn)), some (.int (nI bn)), some (.int 1), some (.int (nI tq))] [] (hp lk o (hsC tq mf) wf q) (fun v h' => v = [.int (al (pb (nu q.2.2.2.2.2.2.2.2.2.2.2.2.2.2 sn) mf bn) k tq)] ∧ h' = hp lk o (cpF 65 wf (hsC (nh (pb (nu q.2.2.2.2.2.2.2.2.2.2.2.2.2.2 sn) mf bn) k tq) mf)) wf q) := by
  intro k
  induction k with
  | zero =>
    intro tq ht
    have hz9 := hz0.2
    have etq : tq = ix (q.2.2.2.2.2.2.2.2.2.2.2.2.2.1 sn) := by omega
    subst etq
    refine xg_iload (pc := 5) dX7_isBook_5 rfl ?_
    refine xg_aload_n (pc := 7) dX7_isBook_7 rfl ?_
    refine xg_get (pc := 8) dX7_isBook_8 flX7_35 hp_62 rfl ?_
    refine xg_iload_n (pc := 11) dX7_isBook_11 rfl ?_
    refine xg_iald (pc := 12) sn dX7_isBook_12 hp_71 rfl (by omega) (by decide) ?_
    refine xg_eq hz0.1 ?_
    refine xg_icmp_ge (pc := 13) (tgt := 59) dX7_isBook_13 (by decide) (fun c_13 => ?_) (fun c_13 => absurd c_13 (fun q => q (nI_le (by omega) (by omega))))
    refine xg_aload_n (pc := 59) dX7_isBook_59 rfl ?_
    refine xg_cvV (pc := 60) (h1 := hp lk o (cpF 65 wf (hsC (ix (q.2.2.2.2.2.2.2.2.2.2.2.2.2.1 sn)) mf)) wf q) (M' := mX7_putsBack) dX7_isBook_60 lkX7_150 mcX7_putsBack hp_62 rfl (ev_X7_putsBack) rfl rfl (Nat.le_of_ble_eq_true rfl) ?_
    refine xg_iload_n (pc := 63) dX7_isBook_63 rfl ?_
    exact xg_zret (pc := 64) (ty := .boolean) dX7_isBook_64 rfl rfl (⟨rfl, rfl⟩)
  | succ k ih =>
    intro tq ht
    have hz9 := hz0.2
    have h5 := okp.h5
    refine xg_iload (pc := 5) dX7_isBook_5 rfl ?_
    refine xg_aload_n (pc := 7) dX7_isBook_7 rfl ?_
    refine xg_get (pc := 8) dX7_isBook_8 flX7_35 hp_62 rfl ?_
    refine xg_iload_n (pc := 11) dX7_isBook_11 rfl ?_
    refine xg_iald (pc := 12) sn dX7_isBook_12 hp_71 rfl (by omega) (by decide) ?_
    refine xg_eq hz0.1 ?_
    refine xg_icmp_ge (pc := 13) (tgt := 59) dX7_isBook_13 (by decide) (fun c_13 => absurd c_13 (nI_ge (by omega) (by omega))) (fun c_13 => ?_)
    refine xg_iload_n (pc := 16) dX7_isBook_16 rfl ?_
    refine xg_if_eq (pc := 17) (tgt := 59) dX7_isBook_17 (by decide) (fun c_17 => absurd c_17 (by decide)) (fun c_17 => ?_)
    refine xg_aload_n (pc := 20) dX7_isBook_20 rfl ?_
    refine xg_get (pc := 21) dX7_isBook_21 flX7_38 hp_62 rfl ?_
    refine xg_bipush (v := 40) (pc := 24) dX7_isBook_24 (by decide) ?_
    refine xg_iload_n (pc := 26) dX7_isBook_26 rfl ?_
    refine xg_imul (pc := 27) dX7_isBook_27 ?_
    refine xg_iload (pc := 28) dX7_isBook_28 rfl ?_
    refine xg_iadd (pc := 30) dX7_isBook_30 ?_
    refine xg_lald (pc := 31) (40 * sn + tq) dX7_isBook_31 hp_72 (by simp only [xlit, nI_add, pk_mul]) (by omega) (by decide) ?_
    refine xg_aload_n (pc := 32) dX7_isBook_32 rfl ?_
    refine xg_iload_n (pc := 33) dX7_isBook_33 rfl ?_
    refine xg_iconst (v := 2) (pc := 34) dX7_isBook_34 (by decide) ?_
    refine xg_cvI (pc := 35) (h1 := hp lk o (hsC tq mf) wf q) (x := (hsC tq mf) (45 + 4 * bn + 2)) (M' := mX7_has) dX7_isBook_35 lkX7_77 mcX7_has hp_62 rfl (ev_X7_has (j := bn) (w := 2) (by omega)) rfl rfl (Nat.le_of_ble_eq_true rfl) ?_
    refine xg_i2l (pc := 38) dX7_isBook_38 ?_
    refine xg_lcmp (pc := 39) dX7_isBook_39 ?_
    refine xg_if_ne (pc := 40) (tgt := 47) dX7_isBook_40 (by decide) (fun c_40 => ?_) (fun c_40 => ?_)
    ·
      rw [lg_eq] at c_40
      refine xg_iconst (v := 0) (pc := 47) dX7_isBook_47 (by decide) ?_
      refine xg_istore_n (pc := 48) (ls' := [some (.ref 62), some (.int (nI sn)), some (.int (nI bn)), some (.int 0), some (.int (nI tq))]) dX7_isBook_48 (by decide) rfl ?_
      refine xg_aload_n (pc := 49) dX7_isBook_49 rfl ?_
      refine xg_cvV (pc := 50) (h1 := hp lk o (hrC (hsC tq mf)) wf q) (M' := mX7_hour) dX7_isBook_50 lkX7_133 mcX7_hour hp_62 rfl (ev_hrC (hs_P okp).2) rfl rfl (Nat.le_of_ble_eq_true rfl) ?_
      refine xg_iinc (pc := 53) (y := nI (tq + 1)) (ls' := [some (.ref 62), some (.int (nI sn)), some (.int (nI bn)), some (.int 0), some (.int (nI (tq + 1)))]) dX7_isBook_53 rfl (xinc _) (by decide) rfl ?_
      refine xg_goto (pc := 56) (tgt := 5) dX7_isBook_56 (by decide) ?_
      refine xg_iload (pc := 5) dX7_isBook_5 rfl ?_
      refine xg_aload_n (pc := 7) dX7_isBook_7 rfl ?_
      refine xg_get (pc := 8) dX7_isBook_8 flX7_35 hp_62 rfl ?_
      refine xg_iload_n (pc := 11) dX7_isBook_11 rfl ?_
      refine xg_iald (pc := 12) sn dX7_isBook_12 hp_71 rfl (by omega) (by decide) ?_
      refine xg_eq hz0.1 ?_
      refine xg_icmp_ge (pc := 13) (tgt := 59) dX7_isBook_13 (by decide) (fun c_13 => ?_) (fun c_13 => ?_)
      ·
        refine xg_aload_n (pc := 59) dX7_isBook_59 rfl ?_
        refine xg_cvV (pc := 60) (h1 := hp lk o (cpF 65 wf (hrC (hsC tq mf))) wf q) (M' := mX7_putsBack) dX7_isBook_60 lkX7_150 mcX7_putsBack hp_62 rfl (ev_X7_putsBack) rfl rfl (Nat.le_of_ble_eq_true rfl) ?_
        refine xg_iload_n (pc := 63) dX7_isBook_63 rfl ?_
        exact xg_zret (pc := 64) (ty := .boolean) dX7_isBook_64 rfl rfl (⟨by rw [show al (pb (nu q.2.2.2.2.2.2.2.2.2.2.2.2.2.2 sn) mf bn) (k + 1) tq = 0 from if_neg c_40], by rw [show nh (pb (nu q.2.2.2.2.2.2.2.2.2.2.2.2.2.2 sn) mf bn) (k + 1) tq = tq + 1 from if_neg c_40]; rfl⟩)
      ·
        refine xg_iload_n (pc := 16) dX7_isBook_16 rfl ?_
        refine xg_if_eq (pc := 17) (tgt := 59) dX7_isBook_17 (by decide) (fun c_17 => ?_) (fun c_17 => absurd c_17 (by decide))
        refine xg_aload_n (pc := 59) dX7_isBook_59 rfl ?_
        refine xg_cvV (pc := 60) (h1 := hp lk o (cpF 65 wf (hrC (hsC tq mf))) wf q) (M' := mX7_putsBack) dX7_isBook_60 lkX7_150 mcX7_putsBack hp_62 rfl (ev_X7_putsBack) rfl rfl (Nat.le_of_ble_eq_true rfl) ?_
        refine xg_iload_n (pc := 63) dX7_isBook_63 rfl ?_
        exact xg_zret (pc := 64) (ty := .boolean) dX7_isBook_64 rfl rfl (⟨by rw [show al (pb (nu q.2.2.2.2.2.2.2.2.2.2.2.2.2.2 sn) mf bn) (k + 1) tq = 0 from if_neg c_40], by rw [show nh (pb (nu q.2.2.2.2.2.2.2.2.2.2.2.2.2.2 sn) mf bn) (k + 1) tq = tq + 1 from if_neg c_40]; rfl⟩)
    ·
      rw [lg_eq] at c_40
      refine xg_iconst (v := 1) (pc := 43) dX7_isBook_43 (by decide) ?_
      refine xg_goto (pc := 44) (tgt := 48) dX7_isBook_44 (by decide) ?_
      refine xg_istore_n (pc := 48) (ls' := [some (.ref 62), some (.int (nI sn)), some (.int (nI bn)), some (.int 1), some (.int (nI tq))]) dX7_isBook_48 (by decide) rfl ?_
      refine xg_aload_n (pc := 49) dX7_isBook_49 rfl ?_
      refine xg_cvV (pc := 50) (h1 := hp lk o (hrC (hsC tq mf)) wf q) (M' := mX7_hour) dX7_isBook_50 lkX7_133 mcX7_hour hp_62 rfl (ev_hrC (hs_P okp).2) rfl rfl (Nat.le_of_ble_eq_true rfl) ?_
      refine xg_iinc (pc := 53) (y := nI (tq + 1)) (ls' := [some (.ref 62), some (.int (nI sn)), some (.int (nI bn)), some (.int 1), some (.int (nI (tq + 1)))]) dX7_isBook_53 rfl (xinc _) (by decide) rfl ?_
      refine xg_goto (pc := 56) (tgt := 5) dX7_isBook_56 (by decide) ?_
      rw [show al (pb (nu q.2.2.2.2.2.2.2.2.2.2.2.2.2.2 sn) mf bn) (k + 1) tq = al (pb (nu q.2.2.2.2.2.2.2.2.2.2.2.2.2.2 sn) mf bn) k (tq + 1) from if_pos c_40, show nh (pb (nu q.2.2.2.2.2.2.2.2.2.2.2.2.2.2 sn) mf bn) (k + 1) tq = nh (pb (nu q.2.2.2.2.2.2.2.2.2.2.2.2.2.2 sn) mf bn) k (tq + 1) from if_pos c_40]
      exact ih (tq + 1) (by omega)
set_option maxRecDepth 100000 in
theorem ev_X7_isBook {sn bn : Nat} (okp : okP mf) (hsn : sn ≤ 3) (hz0 : q.2.2.2.2.2.2.2.2.2.2.2.2.2.1 sn = nI (ix (q.2.2.2.2.2.2.2.2.2.2.2.2.2.1 sn)) ∧ ix (q.2.2.2.2.2.2.2.2.2.2.2.2.2.1 sn) ≤ 40) (hbn : bn < nB mf) : xDv X false (d + 7) mX7_isBook [.ref 62, .int (nI sn), .int (nI bn)] (hp lk o mf wf q) [.int (al (pb (nu q.2.2.2.2.2.2.2.2.2.2.2.2.2.2 sn) mf bn) (ix (q.2.2.2.2.2.2.2.2.2.2.2.2.2.1 sn)) 0)] (hp lk o (cpF 65 wf (hsC (nh (pb (nu q.2.2.2.2.2.2.2.2.2.2.2.2.2.2 sn) mf bn) (ix (q.2.2.2.2.2.2.2.2.2.2.2.2.2.1 sn)) 0) mf)) wf q) := by
  refine xDv.of (ls := [some (.ref 62), some (.int (nI sn)), some (.int (nI bn)), none, none]) mcX7_isBook.1.2.2.2.2 (Nat.le_of_ble_eq_true rfl) rfl ?_
  refine xg_iconst (v := 1) (pc := 0) dX7_isBook_0 (by decide) ?_
  refine xg_istore_n (pc := 1) (ls' := [some (.ref 62), some (.int (nI sn)), some (.int (nI bn)), some (.int 1), none]) dX7_isBook_1 (by decide) rfl ?_
  refine xg_iconst (v := 0) (pc := 2) dX7_isBook_2 (by decide) ?_
  refine xg_istore (pc := 3) (ls' := [some (.ref 62), some (.int (nI sn)), some (.int (nI bn)), some (.int 1), some (.int 0)]) dX7_isBook_3 (by decide) rfl ?_
  exact lp_X7_isBook okp hsn hz0 hbn (ix (q.2.2.2.2.2.2.2.2.2.2.2.2.2.1 sn)) 0 (by omega)
theorem al_c {P P' : Nat → Prop} [DecidablePred P] [DecidablePred P'] (h : ∀ i, P i ↔ P' i) : ∀ k t, al P k t = al P' k t := by
  intro k
  induction k with
  | zero => intro t; rfl
  | succ k ih =>
    intro t
    rw [al, al, ih]
    by_cases q : P t
    · rw [if_pos q, if_pos ((h t).mp q)]
    · rw [if_neg q, if_neg (fun z => q ((h t).mpr z))]
theorem rd_c {g : Nat → Int64} {f f' : Nat → Int32} {z b c : Nat} (okx : okP (upd f (45 + 4 * b) (nI c))) (e : lvE f f') (hb : b < nB f) : al (pb g (upd f' (45 + 4 * b) (nI c)) b) z 0 = rdN g f z b c := by
  refine al_c (fun i => ?_) _ _
  unfold pb
  rw [hsL_b okx (e.u (by omega) (by omega)) (by rw [nB_of (f := f) (pk_un (by omega))]; exact hb) (by decide)]
set_option maxRecDepth 100000 in
theorem lp_X7_read {sn bn : Nat} (okp : okP mf) (hsn : sn ≤ 3) (hz0 : q.2.2.2.2.2.2.2.2.2.2.2.2.2.1 sn = nI (ix (q.2.2.2.2.2.2.2.2.2.2.2.2.2.1 sn)) ∧ ix (q.2.2.2.2.2.2.2.2.2.2.2.2.2.1 sn) ≤ 40) (hbn : bn < nB mf) : ∀ (k tq : Nat), tq + k = 48 → ∀ (g : Nat → Int32), eq65 mf g → xGo X false (d + 8) 0 0 mX7_read 27 [some (.ref 62), some (.int (nI sn)), some (.int (nI bn)), some (.int 0), some (.int (sumI (rdN (nu q.2.2.2.2.2.2.2.2.2.2.2.2.2.2 sn) mf (ix (q.2.2.2.2.2.2.2.2.2.2.2.2.2.1 sn)) bn) tq)), some (.int (nI tq))] [] (hp lk o g (cpF 65 mf wf) q) (RP lk o (.int (sumI (rdN (nu q.2.2.2.2.2.2.2.2.2.2.2.2.2.2 sn) mf (ix (q.2.2.2.2.2.2.2.2.2.2.2.2.2.1 sn)) bn) 48), q, mf)) := by
  intro k
  induction k with
  | zero =>
    intro tq ht g eg
    have etq : tq = 48 := by omega
    subst etq
    refine xg_iload (pc := 27) dX7_read_27 rfl ?_
    refine xg_bipush (v := 48) (pc := 29) dX7_read_29 (by decide) ?_
    refine xg_icmp_ge (pc := 31) (tgt := 67) dX7_read_31 (by decide) (fun c_31 => ?_) (fun c_31 => absurd c_31 (by decide))
    refine xg_iload (pc := 67) dX7_read_67 rfl ?_
    exact xg_iret (pc := 69) dX7_read_69 rfl (rpR rfl eg)
  | succ k ih =>
    intro tq ht g eg
    have h5 := okp.h5
    have okx : okP (upd mf (45 + 4 * bn) (nI tq)) := okp.at (by omega) (cell_of (by omega))
    have okg : okP (upd g (45 + 4 * bn + 0) (nI tq)) := eg.okU okp.1.1 okx (by omega) (by omega)
    have eg4 : upd g (45 + 4 * bn + 0) (nI tq) 4 = mf 4 := by rw [pk_un (by omega)]; exact (eg 4 (by decide)).symm
    refine xg_iload (pc := 27) dX7_read_27 rfl ?_
    refine xg_bipush (v := 48) (pc := 29) dX7_read_29 (by decide) ?_
    refine xg_icmp_ge (pc := 31) (tgt := 67) dX7_read_31 (by decide) (fun c_31 => absurd c_31 (nI_ge (b := 48) (by omega) (by omega))) (fun c_31 => ?_)
    refine xg_aload_n (pc := 34) dX7_read_34 rfl ?_
    refine xg_iload_n (pc := 35) dX7_read_35 rfl ?_
    refine xg_iconst (v := 0) (pc := 36) dX7_read_36 (by decide) ?_
    refine xg_iload (pc := 37) dX7_read_37 rfl ?_
    refine xg_cvV (pc := 39) (h1 := hp lk o (upd g (45 + 4 * bn + 0) (nI tq)) (cpF 65 mf wf) q) (M' := mX7_gets) dX7_read_39 lkX7_110 mcX7_gets hp_62 rfl (ev_X7_gets (j := bn) (w := 0) (by omega)) rfl rfl (Nat.le_of_ble_eq_true rfl) ?_
    refine xg_iload (pc := 42) dX7_read_42 rfl ?_
    refine xg_aload_n (pc := 44) dX7_read_44 rfl ?_
    refine xg_iload_n (pc := 45) dX7_read_45 rfl ?_
    refine xg_iload_n (pc := 46) dX7_read_46 rfl ?_
    refine xg_cvI (pc := 47) (h1 := hp lk o (cpF 65 (cpF 65 mf wf) (hsC (nh (pb (nu q.2.2.2.2.2.2.2.2.2.2.2.2.2.2 sn) (upd g (45 + 4 * bn + 0) (nI tq)) bn) (ix (q.2.2.2.2.2.2.2.2.2.2.2.2.2.1 sn)) 0) (upd g (45 + 4 * bn + 0) (nI tq)))) (cpF 65 mf wf) q) (x := al (pb (nu q.2.2.2.2.2.2.2.2.2.2.2.2.2.2 sn) (upd g (45 + 4 * bn + 0) (nI tq)) bn) (ix (q.2.2.2.2.2.2.2.2.2.2.2.2.2.1 sn)) 0) (M' := mX7_isBook) dX7_read_47 lkX7_245 mcX7_isBook hp_62 rfl (ev_X7_isBook okg hsn hz0 (by rw [nB_of (f := mf) eg4]; exact hbn)) rfl rfl (Nat.le_of_ble_eq_true rfl) ?_
    refine xg_eq (rd_c okx (eg.lv okp.1.1) hbn) ?_
    refine xg_if_eq (pc := 50) (tgt := 57) dX7_read_50 (by decide) (fun c_50 => ?_) (fun c_50 => ?_)
    ·
      refine xg_iconst (v := 0) (pc := 57) dX7_read_57 (by decide) ?_
      refine xg_iadd (pc := 58) dX7_read_58 ?_
      refine xg_istore (pc := 59) (ls' := [some (.ref 62), some (.int (nI sn)), some (.int (nI bn)), some (.int 0), some (.int ((sumI (rdN (nu q.2.2.2.2.2.2.2.2.2.2.2.2.2.2 sn) mf (ix (q.2.2.2.2.2.2.2.2.2.2.2.2.2.1 sn)) bn) tq) + 0)), some (.int (nI tq))]) dX7_read_59 (by decide) rfl ?_
      refine xg_iinc (pc := 61) (y := nI (tq + 1)) (ls' := [some (.ref 62), some (.int (nI sn)), some (.int (nI bn)), some (.int 0), some (.int ((sumI (rdN (nu q.2.2.2.2.2.2.2.2.2.2.2.2.2.2 sn) mf (ix (q.2.2.2.2.2.2.2.2.2.2.2.2.2.1 sn)) bn) tq) + 0)), some (.int (nI (tq + 1)))]) dX7_read_61 rfl (xinc _) (by decide) rfl ?_
      refine xg_goto (pc := 64) (tgt := 27) dX7_read_64 (by decide) ?_
      have e1 : sumI (rdN (nu q.2.2.2.2.2.2.2.2.2.2.2.2.2.2 sn) mf (ix (q.2.2.2.2.2.2.2.2.2.2.2.2.2.1 sn)) bn) (tq + 1) = sumI (rdN (nu q.2.2.2.2.2.2.2.2.2.2.2.2.2.2 sn) mf (ix (q.2.2.2.2.2.2.2.2.2.2.2.2.2.1 sn)) bn) tq + 0 := by rw [sumI, c_50]
      have z := ih (tq + 1) (by omega)
      rw [e1] at z
      exact z _ (eq65_pb eq65_th)
    ·
      refine xg_iconst (v := 1) (pc := 53) dX7_read_53 (by decide) ?_
      refine xg_goto (pc := 54) (tgt := 58) dX7_read_54 (by decide) ?_
      refine xg_iadd (pc := 58) dX7_read_58 ?_
      refine xg_istore (pc := 59) (ls' := [some (.ref 62), some (.int (nI sn)), some (.int (nI bn)), some (.int 0), some (.int ((sumI (rdN (nu q.2.2.2.2.2.2.2.2.2.2.2.2.2.2 sn) mf (ix (q.2.2.2.2.2.2.2.2.2.2.2.2.2.1 sn)) bn) tq) + 1)), some (.int (nI tq))]) dX7_read_59 (by decide) rfl ?_
      refine xg_iinc (pc := 61) (y := nI (tq + 1)) (ls' := [some (.ref 62), some (.int (nI sn)), some (.int (nI bn)), some (.int 0), some (.int ((sumI (rdN (nu q.2.2.2.2.2.2.2.2.2.2.2.2.2.2 sn) mf (ix (q.2.2.2.2.2.2.2.2.2.2.2.2.2.1 sn)) bn) tq) + 1)), some (.int (nI (tq + 1)))]) dX7_read_61 rfl (xinc _) (by decide) rfl ?_
      refine xg_goto (pc := 64) (tgt := 27) dX7_read_64 (by decide) ?_
      have e1 : sumI (rdN (nu q.2.2.2.2.2.2.2.2.2.2.2.2.2.2 sn) mf (ix (q.2.2.2.2.2.2.2.2.2.2.2.2.2.1 sn)) bn) (tq + 1) = sumI (rdN (nu q.2.2.2.2.2.2.2.2.2.2.2.2.2.2 sn) mf (ix (q.2.2.2.2.2.2.2.2.2.2.2.2.2.1 sn)) bn) tq + 1 := by rw [sumI, show rdN (nu q.2.2.2.2.2.2.2.2.2.2.2.2.2.2 sn) mf (ix (q.2.2.2.2.2.2.2.2.2.2.2.2.2.1 sn)) bn tq = 1 from (al01 _ _).resolve_left c_50]
      have z := ih (tq + 1) (by omega)
      rw [e1] at z
      exact z _ (eq65_pb eq65_th)
set_option maxRecDepth 100000 in
set_option maxHeartbeats 4000000 in
theorem ev_X7_read {s b : Int32} (okp : okP mf) (okz : okS (qZ q)) : xEv X false (d + 8) 0 0 mX7_read [.ref 62, .int s, .int b] (hp lk o mf wf q) (RP lk o (r_read q mf s b)) := by
  refine xEv.of (ls := [some (.ref 62), some (.int s), some (.int b), none, none, none]) mcX7_read.1.2.2.2.2 (Nat.le_of_ble_eq_true rfl) rfl ?_
  rcases na4 (s := s) (b := b) (g := q.2.2.2.2.2.2.2.2.2.2.2.2.1) (f := mf) okp.1.1 with hs | ⟨sn, hsn, rfl, hm⟩ | ⟨sn, hsn, rfl, hm, hx⟩ | ⟨sn, bn, hsn, rfl, hm, hx, hbn, rfl⟩
  ·
    refine xg_aload_n (pc := 0) dX7_read_0 rfl ?_
    refine xg_iload_n (pc := 1) dX7_read_1 rfl ?_
    refine xg_iload_n (pc := 2) dX7_read_2 rfl ?_
    refine xg_cvI (pc := 3) (h1 := hp lk o mf wf q) (x := -1000000001) (M' := mX7_notAsked) dX7_read_3 lkX7_242 mcX7_notAsked hp_62 rfl (ev_na_b hs) rfl rfl (Nat.le_of_ble_eq_true rfl) ?_
    refine xg_istore_n (pc := 6) (ls' := [some (.ref 62), some (.int s), some (.int b), some (.int (-1000000001)), none, none]) dX7_read_6 (by decide) rfl ?_
    refine xg_iload_n (pc := 7) dX7_read_7 rfl ?_
    refine xg_if_eq (pc := 8) (tgt := 17) dX7_read_8 (by decide) (fun c_8 => absurd c_8 (by decide)) (fun c_8 => ?_)
    refine xg_aload_n (pc := 11) dX7_read_11 rfl ?_
    refine xg_iload_n (pc := 12) dX7_read_12 rfl ?_
    refine xg_cvI (pc := 13) (h1 := hp lk o mf wf (q.1, q.2.1, upd q.2.2.1 0 (q.2.2.1 0 + 1), q.2.2.2.1, q.2.2.2.2.1, q.2.2.2.2.2.1, q.2.2.2.2.2.2.1, q.2.2.2.2.2.2.2.1, q.2.2.2.2.2.2.2.2.1, q.2.2.2.2.2.2.2.2.2.1, q.2.2.2.2.2.2.2.2.2.2.1, q.2.2.2.2.2.2.2.2.2.2.2.1, q.2.2.2.2.2.2.2.2.2.2.2.2.1, q.2.2.2.2.2.2.2.2.2.2.2.2.2.1, q.2.2.2.2.2.2.2.2.2.2.2.2.2.2)) (x := -1000000001) (M' := mX7_finds) dX7_read_13 lkX7_44 mcX7_finds hp_62 rfl (ev_X7_finds (j := 0) (by decide) (by decide)) rfl rfl (Nat.le_of_ble_eq_true rfl) ?_
    exact xg_iret (pc := 16) dX7_read_16 rfl (rpR (by exact if_neg hs) eq65.rf)
  ·
    refine xg_aload_n (pc := 0) dX7_read_0 rfl ?_
    refine xg_iload_n (pc := 1) dX7_read_1 rfl ?_
    refine xg_iload_n (pc := 2) dX7_read_2 rfl ?_
    refine xg_cvI (pc := 3) (h1 := hp lk o mf wf q) (x := -1000000006) (M' := mX7_notAsked) dX7_read_3 lkX7_242 mcX7_notAsked hp_62 rfl (ev_na_m hsn hm) rfl rfl (Nat.le_of_ble_eq_true rfl) ?_
    refine xg_istore_n (pc := 6) (ls' := [some (.ref 62), some (.int (nI sn)), some (.int b), some (.int (-1000000006)), none, none]) dX7_read_6 (by decide) rfl ?_
    refine xg_iload_n (pc := 7) dX7_read_7 rfl ?_
    refine xg_if_eq (pc := 8) (tgt := 17) dX7_read_8 (by decide) (fun c_8 => absurd c_8 (by decide)) (fun c_8 => ?_)
    refine xg_aload_n (pc := 11) dX7_read_11 rfl ?_
    refine xg_iload_n (pc := 12) dX7_read_12 rfl ?_
    refine xg_cvI (pc := 13) (h1 := hp lk o mf wf (q.1, q.2.1, upd q.2.2.1 5 (q.2.2.1 5 + 1), q.2.2.2.1, q.2.2.2.2.1, q.2.2.2.2.2.1, q.2.2.2.2.2.2.1, q.2.2.2.2.2.2.2.1, q.2.2.2.2.2.2.2.2.1, q.2.2.2.2.2.2.2.2.2.1, q.2.2.2.2.2.2.2.2.2.2.1, q.2.2.2.2.2.2.2.2.2.2.2.1, q.2.2.2.2.2.2.2.2.2.2.2.2.1, q.2.2.2.2.2.2.2.2.2.2.2.2.2.1, q.2.2.2.2.2.2.2.2.2.2.2.2.2.2)) (x := -1000000006) (M' := mX7_finds) dX7_read_13 lkX7_44 mcX7_finds hp_62 rfl (ev_X7_finds (j := 5) (by decide) (by decide)) rfl rfl (Nat.le_of_ble_eq_true rfl) ?_
    exact xg_iret (pc := 16) dX7_read_16 rfl (rpR (by exact (if_pos (sn_r hsn)).trans (if_pos (by rw [sn_e hsn]; exact hm))) eq65.rf)
  ·
    refine xg_aload_n (pc := 0) dX7_read_0 rfl ?_
    refine xg_iload_n (pc := 1) dX7_read_1 rfl ?_
    refine xg_iload_n (pc := 2) dX7_read_2 rfl ?_
    refine xg_cvI (pc := 3) (h1 := hp lk o mf wf q) (x := -1000000001) (M' := mX7_notAsked) dX7_read_3 lkX7_242 mcX7_notAsked hp_62 rfl (ev_na_x okp.1.1 hsn hm hx) rfl rfl (Nat.le_of_ble_eq_true rfl) ?_
    refine xg_istore_n (pc := 6) (ls' := [some (.ref 62), some (.int (nI sn)), some (.int b), some (.int (-1000000001)), none, none]) dX7_read_6 (by decide) rfl ?_
    refine xg_iload_n (pc := 7) dX7_read_7 rfl ?_
    refine xg_if_eq (pc := 8) (tgt := 17) dX7_read_8 (by decide) (fun c_8 => absurd c_8 (by decide)) (fun c_8 => ?_)
    refine xg_aload_n (pc := 11) dX7_read_11 rfl ?_
    refine xg_iload_n (pc := 12) dX7_read_12 rfl ?_
    refine xg_cvI (pc := 13) (h1 := hp lk o mf wf (q.1, q.2.1, upd q.2.2.1 0 (q.2.2.1 0 + 1), q.2.2.2.1, q.2.2.2.2.1, q.2.2.2.2.2.1, q.2.2.2.2.2.2.1, q.2.2.2.2.2.2.2.1, q.2.2.2.2.2.2.2.2.1, q.2.2.2.2.2.2.2.2.2.1, q.2.2.2.2.2.2.2.2.2.2.1, q.2.2.2.2.2.2.2.2.2.2.2.1, q.2.2.2.2.2.2.2.2.2.2.2.2.1, q.2.2.2.2.2.2.2.2.2.2.2.2.2.1, q.2.2.2.2.2.2.2.2.2.2.2.2.2.2)) (x := -1000000001) (M' := mX7_finds) dX7_read_13 lkX7_44 mcX7_finds hp_62 rfl (ev_X7_finds (j := 0) (by decide) (by decide)) rfl rfl (Nat.le_of_ble_eq_true rfl) ?_
    exact xg_iret (pc := 16) dX7_read_16 rfl (rpR (by exact (if_pos (sn_r hsn)).trans ((if_neg (by rw [sn_e hsn]; exact hm)).trans (if_neg hx))) eq65.rf)
  ·
    refine xg_aload_n (pc := 0) dX7_read_0 rfl ?_
    refine xg_iload_n (pc := 1) dX7_read_1 rfl ?_
    refine xg_iload_n (pc := 2) dX7_read_2 rfl ?_
    refine xg_cvI (pc := 3) (h1 := hp lk o mf wf q) (x := 0) (M' := mX7_notAsked) dX7_read_3 lkX7_242 mcX7_notAsked hp_62 rfl (ev_na_0 okp.1.1 hsn hm hx) rfl rfl (Nat.le_of_ble_eq_true rfl) ?_
    refine xg_istore_n (pc := 6) (ls' := [some (.ref 62), some (.int (nI sn)), some (.int (nI bn)), some (.int 0), none, none]) dX7_read_6 (by decide) rfl ?_
    refine xg_iload_n (pc := 7) dX7_read_7 rfl ?_
    refine xg_if_eq (pc := 8) (tgt := 17) dX7_read_8 (by decide) (fun c_8 => ?_) (fun c_8 => absurd c_8 (by decide))
    refine xg_aload_n (pc := 17) dX7_read_17 rfl ?_
    refine xg_cvV (pc := 18) (h1 := hp lk o mf (cpF 65 mf wf) q) (M' := mX7_thinks) dX7_read_18 lkX7_147 mcX7_thinks hp_62 rfl (ev_X7_thinks) rfl rfl (Nat.le_of_ble_eq_true rfl) ?_
    refine xg_iconst (v := 0) (pc := 21) dX7_read_21 (by decide) ?_
    refine xg_istore (pc := 22) (ls' := [some (.ref 62), some (.int (nI sn)), some (.int (nI bn)), some (.int 0), some (.int 0), none]) dX7_read_22 (by decide) rfl ?_
    refine xg_iconst (v := 0) (pc := 24) dX7_read_24 (by decide) ?_
    refine xg_istore (pc := 25) (ls' := [some (.ref 62), some (.int (nI sn)), some (.int (nI bn)), some (.int 0), some (.int 0), some (.int 0)]) dX7_read_25 (by decide) rfl ?_
    have hz0 := okz sn (by omega)
    have h5 := okp.h5
    have ebn : ix (nI bn) = bn := nI_clamp (by omega)
    rw [show r_read q mf (nI sn) (nI bn) = (.int (sumI (rdN (nu q.2.2.2.2.2.2.2.2.2.2.2.2.2.2 sn) mf (ix (q.2.2.2.2.2.2.2.2.2.2.2.2.2.1 sn)) bn) 48), q, mf) from by unfold r_read; rw [if_pos (sn_r hsn), sn_e hsn, if_neg hm, if_pos hx, ebn]]
    exact lp_X7_read okp hsn hz0 hbn 48 0 rfl _ eq65.rf
def ncR (q : xQ) (s a t b n : Int32) : Int32 := if (0 ≤ s ∧ s ≤ 3) ∧ (0 ≤ t ∧ t ≤ 3) then (if qB q (ix s) = 0 ∨ qB q (ix t) = 0 then -1000000006 else if qB q (ix s) = qB q (ix t) then (if rgC a n (qZ q (ix s)) ∧ rgC b n (qZ q (ix t)) then 0 else -1000000001) else -1000000003) else -1000000001
theorem nc4 {q : xQ} {f : Nat → Int32} {s a t b n : Int32} (okz : okS (qZ q)) : (ncR q s a t b n = -1000000001 ∧ r_copy q f s a t b n = rF q f 0) ∨ (ncR q s a t b n = -1000000006 ∧ r_copy q f s a t b n = rF q f 5) ∨ (ncR q s a t b n = -1000000003 ∧ r_copy q f s a t b n = rF q f 2) ∨
    (ncR q s a t b n = 0 ∧ ∃ sn tn an bn nn, sn ≤ 3 ∧ tn ≤ 3 ∧ s = nI sn ∧ t = nI tn ∧ a = nI an ∧ b = nI bn ∧ n = nI nn ∧ an + nn ≤ 40 ∧ bn + nn ≤ 40 ∧ r_copy q f s a t b n = (.int (nI nn), qS q (qB q) (qZ q) (va_cpy (qC q) (qC q) (40 * sn + an) (40 * tn + bn) nn), f)) := by
  unfold ncR r_copy
  by_cases h1 : (0 ≤ s ∧ s ≤ 3) ∧ (0 ≤ t ∧ t ≤ 3)
  · rw [if_pos h1, if_pos h1]
    by_cases h2 : qB q (ix s) = 0 ∨ qB q (ix t) = 0
    · rw [if_pos h2, if_pos h2]; exact Or.inr (Or.inl ⟨rfl, rfl⟩)
    · rw [if_neg h2, if_neg h2]
      by_cases h3 : qB q (ix s) = qB q (ix t)
      · rw [if_pos h3, if_pos h3]
        by_cases h4 : rgC a n (qZ q (ix s)) ∧ rgC b n (qZ q (ix t))
        · rw [if_pos h4, if_pos h4]
          obtain ⟨sn, hs, rfl⟩ := sheet_n h1.1
          obtain ⟨tn, ht, rfl⟩ := sheet_n h1.2
          rw [sn_e hs, sn_e ht] at h4
          have z0 := okz sn (by omega)
          have z1 := okz tn (by omega)
          obtain ⟨an, nn, han, rfl, rfl⟩ := rg_n h4.1 z0.1 z0.2
          obtain ⟨bn, n2, hbn, rfl, e2⟩ := rg_n h4.2 z1.1 z1.2
          have y0 := z0.2
          have y1 := z1.2
          have e3 : nn = n2 := (nI_eq (by omega) (by omega)).mp e2
          subst e3
          refine Or.inr (Or.inr (Or.inr ⟨rfl, sn, tn, an, bn, nn, hs, ht, rfl, rfl, rfl, rfl, rfl, by omega, by omega, ?_⟩))
          rw [sn_e hs, sn_e ht, show ix (nI an) = an from nI_clamp (by omega), show ix (nI bn) = bn from nI_clamp (by omega), show ix (nI nn) = nn from nI_clamp (by omega)]
        · rw [if_neg h4, if_neg h4]; exact Or.inl ⟨rfl, rfl⟩
      · rw [if_neg h3, if_neg h3]; exact Or.inr (Or.inr (Or.inl ⟨rfl, rfl⟩))
  · rw [if_neg h1, if_neg h1]; exact Or.inl ⟨rfl, rfl⟩
theorem cp_fw {g : Nat → Int64} {A B n k : Nat} (hk : k < n) (h : B ≤ A ∨ A + n ≤ B) : vp_updL (va_cpy g g A B k) (B + k) (va_cpy g g A B k (A + k)) = va_cpy g g A B (k + 1) := by
  funext j
  unfold vp_updL va_cpy
  by_cases h1 : j = B + k
  · rw [if_pos h1, if_neg (by omega), if_pos (by omega)]
    congr 1; omega
  · rw [if_neg h1]
    by_cases h2 : B ≤ j ∧ j < B + k
    · rw [if_pos h2, if_pos (by omega)]
    · rw [if_neg h2, if_neg (by omega)]
theorem cp_bw {g : Nat → Int64} {A B n k : Nat} (hk : k < n) (h : A ≤ B ∨ B + n ≤ A) : vp_updL (va_cpy g g (A + (n - k)) (B + (n - k)) k) (B + (n - 1 - k)) (va_cpy g g (A + (n - k)) (B + (n - k)) k (A + (n - 1 - k))) = va_cpy g g (A + (n - (k + 1))) (B + (n - (k + 1))) (k + 1) := by
  funext j
  unfold vp_updL va_cpy
  by_cases h1 : j = B + (n - 1 - k)
  · rw [if_pos h1, if_neg (by omega), if_pos (by omega)]
    congr 1; omega
  · rw [if_neg h1]
    by_cases h2 : B + (n - k) ≤ j ∧ j < B + (n - k) + k
    · rw [if_pos h2, if_pos (by omega)]
      congr 1; omega
    · rw [if_neg h2, if_neg (by omega)]
theorem cpy0 {g : Nat → Int64} {A B : Nat} : va_cpy g g A B 0 = g := by funext j; unfold va_cpy; rw [if_neg (by omega)]
set_option maxRecDepth 100000 in
theorem ev_X7_notCopied {s a t b n : Int32} (okz : okS (qZ q)) : xDv X false (d + 2) mX7_notCopied [.ref 62, .int s, .int a, .int t, .int b, .int n] (hp lk o mf wf q) [.int (ncR q s a t b n)] (hp lk o mf wf q) := by
  refine xDv.of (ls := [some (.ref 62), some (.int s), some (.int a), some (.int t), some (.int b), some (.int n), none]) mcX7_notCopied.1.2.2.2.2 (Nat.le_of_ble_eq_true rfl) rfl ?_
  refine xg_iload_n (pc := 0) dX7_notCopied_0 rfl ?_
  refine xg_csI (pc := 1) (h1 := hp lk o mf wf q) (x := if 0 ≤ s ∧ s ≤ 3 then 1 else 0) (M' := mX7_isSheet) dX7_notCopied_1 lkX7_227 mcX7_isSheet (ev_X7_isSheet) rfl rfl (Nat.le_of_ble_eq_true rfl) ?_
  refine xg_bz (pc := 4) (tgt := 14) dX7_notCopied_4 (by decide) (fun c_4 => ?_) (fun c_4 => ?_)
  ·
    refine xg_ldc (v := -1000000001) (pc := 14) dX7_notCopied_14 ccX7_42 ?_
    exact xg_iret (pc := 16) dX7_notCopied_16 rfl (⟨by unfold ncR; rw [if_neg (fun q => c_4 q.1)], rfl⟩)
  ·
    refine xg_iload_n (pc := 7) dX7_notCopied_7 rfl ?_
    refine xg_csI (pc := 8) (h1 := hp lk o mf wf q) (x := if 0 ≤ t ∧ t ≤ 3 then 1 else 0) (M' := mX7_isSheet) dX7_notCopied_8 lkX7_227 mcX7_isSheet (ev_X7_isSheet) rfl rfl (Nat.le_of_ble_eq_true rfl) ?_
    refine xg_bnz (pc := 11) (tgt := 17) dX7_notCopied_11 (by decide) (fun c_11 => ?_) (fun c_11 => ?_)
    ·
      obtain ⟨sn, hsn, rfl⟩ := sheet_n c_4
      have esn : ix (nI sn) = sn := nI_clamp (by omega)
      obtain ⟨tn, htn, rfl⟩ := sheet_n c_11
      have etn : ix (nI tn) = tn := nI_clamp (by omega)
      have hz0 := okz sn (by omega)
      have hz1 := okz tn (by omega)
      refine xg_aload_n (pc := 17) dX7_notCopied_17 rfl ?_
      refine xg_get (pc := 18) dX7_notCopied_18 flX7_32 hp_62 rfl ?_
      refine xg_iload_n (pc := 21) dX7_notCopied_21 rfl ?_
      refine xg_iald (pc := 22) sn dX7_notCopied_22 hp_70 rfl (by omega) (by decide) ?_
      refine xg_if_eq (pc := 23) (tgt := 35) dX7_notCopied_23 (by decide) (fun c_23 => ?_) (fun c_23 => ?_)
      ·
        refine xg_ldc (v := -1000000006) (pc := 35) dX7_notCopied_35 ccX7_231 ?_
        exact xg_iret (pc := 37) dX7_notCopied_37 rfl (⟨by unfold ncR; rw [if_pos ⟨c_4, c_11⟩, esn, etn]; rw [if_pos (Or.inl c_23)], rfl⟩)
      ·
        refine xg_aload_n (pc := 26) dX7_notCopied_26 rfl ?_
        refine xg_get (pc := 27) dX7_notCopied_27 flX7_32 hp_62 rfl ?_
        refine xg_iload_n (pc := 30) dX7_notCopied_30 rfl ?_
        refine xg_iald (pc := 31) tn dX7_notCopied_31 hp_70 rfl (by omega) (by decide) ?_
        refine xg_if_ne (pc := 32) (tgt := 38) dX7_notCopied_32 (by decide) (fun c_32 => ?_) (fun c_32 => ?_)
        ·
          refine xg_aload_n (pc := 38) dX7_notCopied_38 rfl ?_
          refine xg_get (pc := 39) dX7_notCopied_39 flX7_32 hp_62 rfl ?_
          refine xg_iload_n (pc := 42) dX7_notCopied_42 rfl ?_
          refine xg_iald (pc := 43) sn dX7_notCopied_43 hp_70 rfl (by omega) (by decide) ?_
          refine xg_aload_n (pc := 44) dX7_notCopied_44 rfl ?_
          refine xg_get (pc := 45) dX7_notCopied_45 flX7_32 hp_62 rfl ?_
          refine xg_iload_n (pc := 48) dX7_notCopied_48 rfl ?_
          refine xg_iald (pc := 49) tn dX7_notCopied_49 hp_70 rfl (by omega) (by decide) ?_
          refine xg_icmp_eq (pc := 50) (tgt := 56) dX7_notCopied_50 (by decide) (fun c_50 => ?_) (fun c_50 => ?_)
          ·
            refine xg_iload (pc := 56) dX7_notCopied_56 rfl ?_
            refine xg_if_lt (pc := 58) (tgt := 101) dX7_notCopied_58 (by decide) (fun c_58 => ?_) (fun c_58 => ?_)
            ·
              refine xg_iconst (v := 0) (pc := 101) dX7_notCopied_101 (by decide) ?_
              refine xg_istore (pc := 102) (ls' := [some (.ref 62), some (.int (nI sn)), some (.int a), some (.int (nI tn)), some (.int b), some (.int n), some (.int 0)]) dX7_notCopied_102 (by decide) rfl ?_
              refine xg_iload (pc := 104) dX7_notCopied_104 rfl ?_
              refine xg_if_eq (pc := 106) (tgt := 113) dX7_notCopied_106 (by decide) (fun c_106 => ?_) (fun c_106 => absurd c_106 (by decide))
              refine xg_ldc (v := -1000000001) (pc := 113) dX7_notCopied_113 ccX7_42 ?_
              exact xg_iret (pc := 115) dX7_notCopied_115 rfl (⟨by unfold ncR; rw [if_pos ⟨c_4, c_11⟩, esn, etn]; rw [if_neg (fun q => q.elim c_23 c_32)]; rw [if_pos c_50]; rw [if_neg (fun q => Int32.not_lt.mpr q.1.2.1 c_58)], rfl⟩)
            ·
              refine xg_iload_n (pc := 61) dX7_notCopied_61 rfl ?_
              refine xg_if_lt (pc := 62) (tgt := 101) dX7_notCopied_62 (by decide) (fun c_62 => ?_) (fun c_62 => ?_)
              ·
                refine xg_iconst (v := 0) (pc := 101) dX7_notCopied_101 (by decide) ?_
                refine xg_istore (pc := 102) (ls' := [some (.ref 62), some (.int (nI sn)), some (.int a), some (.int (nI tn)), some (.int b), some (.int n), some (.int 0)]) dX7_notCopied_102 (by decide) rfl ?_
                refine xg_iload (pc := 104) dX7_notCopied_104 rfl ?_
                refine xg_if_eq (pc := 106) (tgt := 113) dX7_notCopied_106 (by decide) (fun c_106 => ?_) (fun c_106 => absurd c_106 (by decide))
                refine xg_ldc (v := -1000000001) (pc := 113) dX7_notCopied_113 ccX7_42 ?_
                exact xg_iret (pc := 115) dX7_notCopied_115 rfl (⟨by unfold ncR; rw [if_pos ⟨c_4, c_11⟩, esn, etn]; rw [if_neg (fun q => q.elim c_23 c_32)]; rw [if_pos c_50]; rw [if_neg (fun q => Int32.not_lt.mpr q.1.1 c_62)], rfl⟩)
              ·
                refine xg_iload (pc := 65) dX7_notCopied_65 rfl ?_
                refine xg_if_lt (pc := 67) (tgt := 101) dX7_notCopied_67 (by decide) (fun c_67 => ?_) (fun c_67 => ?_)
                ·
                  refine xg_iconst (v := 0) (pc := 101) dX7_notCopied_101 (by decide) ?_
                  refine xg_istore (pc := 102) (ls' := [some (.ref 62), some (.int (nI sn)), some (.int a), some (.int (nI tn)), some (.int b), some (.int n), some (.int 0)]) dX7_notCopied_102 (by decide) rfl ?_
                  refine xg_iload (pc := 104) dX7_notCopied_104 rfl ?_
                  refine xg_if_eq (pc := 106) (tgt := 113) dX7_notCopied_106 (by decide) (fun c_106 => ?_) (fun c_106 => absurd c_106 (by decide))
                  refine xg_ldc (v := -1000000001) (pc := 113) dX7_notCopied_113 ccX7_42 ?_
                  exact xg_iret (pc := 115) dX7_notCopied_115 rfl (⟨by unfold ncR; rw [if_pos ⟨c_4, c_11⟩, esn, etn]; rw [if_neg (fun q => q.elim c_23 c_32)]; rw [if_pos c_50]; rw [if_neg (fun q => Int32.not_lt.mpr q.2.1 c_67)], rfl⟩)
                ·
                  refine xg_iload (pc := 70) dX7_notCopied_70 rfl ?_
                  refine xg_aload_n (pc := 72) dX7_notCopied_72 rfl ?_
                  refine xg_get (pc := 73) dX7_notCopied_73 flX7_35 hp_62 rfl ?_
                  refine xg_iload_n (pc := 76) dX7_notCopied_76 rfl ?_
                  refine xg_iald (pc := 77) sn dX7_notCopied_77 hp_71 rfl (by omega) (by decide) ?_
                  refine xg_iload_n (pc := 78) dX7_notCopied_78 rfl ?_
                  refine xg_isub (pc := 79) dX7_notCopied_79 ?_
                  refine xg_icmp_gt (pc := 80) (tgt := 101) dX7_notCopied_80 (by decide) (fun c_80 => ?_) (fun c_80 => ?_)
                  ·
                    refine xg_iconst (v := 0) (pc := 101) dX7_notCopied_101 (by decide) ?_
                    refine xg_istore (pc := 102) (ls' := [some (.ref 62), some (.int (nI sn)), some (.int a), some (.int (nI tn)), some (.int b), some (.int n), some (.int 0)]) dX7_notCopied_102 (by decide) rfl ?_
                    refine xg_iload (pc := 104) dX7_notCopied_104 rfl ?_
                    refine xg_if_eq (pc := 106) (tgt := 113) dX7_notCopied_106 (by decide) (fun c_106 => ?_) (fun c_106 => absurd c_106 (by decide))
                    refine xg_ldc (v := -1000000001) (pc := 113) dX7_notCopied_113 ccX7_42 ?_
                    exact xg_iret (pc := 115) dX7_notCopied_115 rfl (⟨by unfold ncR; rw [if_pos ⟨c_4, c_11⟩, esn, etn]; rw [if_neg (fun q => q.elim c_23 c_32)]; rw [if_pos c_50]; rw [if_neg (fun q => Int32.not_lt.mpr q.1.2.2.2 c_80)], rfl⟩)
                  ·
                    refine xg_iload (pc := 83) dX7_notCopied_83 rfl ?_
                    refine xg_aload_n (pc := 85) dX7_notCopied_85 rfl ?_
                    refine xg_get (pc := 86) dX7_notCopied_86 flX7_35 hp_62 rfl ?_
                    refine xg_iload_n (pc := 89) dX7_notCopied_89 rfl ?_
                    refine xg_iald (pc := 90) tn dX7_notCopied_90 hp_71 rfl (by omega) (by decide) ?_
                    refine xg_iload (pc := 91) dX7_notCopied_91 rfl ?_
                    refine xg_isub (pc := 93) dX7_notCopied_93 ?_
                    refine xg_icmp_gt (pc := 94) (tgt := 101) dX7_notCopied_94 (by decide) (fun c_94 => ?_) (fun c_94 => ?_)
                    ·
                      refine xg_iconst (v := 0) (pc := 101) dX7_notCopied_101 (by decide) ?_
                      refine xg_istore (pc := 102) (ls' := [some (.ref 62), some (.int (nI sn)), some (.int a), some (.int (nI tn)), some (.int b), some (.int n), some (.int 0)]) dX7_notCopied_102 (by decide) rfl ?_
                      refine xg_iload (pc := 104) dX7_notCopied_104 rfl ?_
                      refine xg_if_eq (pc := 106) (tgt := 113) dX7_notCopied_106 (by decide) (fun c_106 => ?_) (fun c_106 => absurd c_106 (by decide))
                      refine xg_ldc (v := -1000000001) (pc := 113) dX7_notCopied_113 ccX7_42 ?_
                      exact xg_iret (pc := 115) dX7_notCopied_115 rfl (⟨by unfold ncR; rw [if_pos ⟨c_4, c_11⟩, esn, etn]; rw [if_neg (fun q => q.elim c_23 c_32)]; rw [if_pos c_50]; rw [if_neg (fun q => Int32.not_lt.mpr q.2.2.2.2 c_94)], rfl⟩)
                    ·
                      refine xg_iconst (v := 1) (pc := 97) dX7_notCopied_97 (by decide) ?_
                      refine xg_goto (pc := 98) (tgt := 102) dX7_notCopied_98 (by decide) ?_
                      refine xg_istore (pc := 102) (ls' := [some (.ref 62), some (.int (nI sn)), some (.int a), some (.int (nI tn)), some (.int b), some (.int n), some (.int 1)]) dX7_notCopied_102 (by decide) rfl ?_
                      refine xg_iload (pc := 104) dX7_notCopied_104 rfl ?_
                      refine xg_if_eq (pc := 106) (tgt := 113) dX7_notCopied_106 (by decide) (fun c_106 => absurd c_106 (by decide)) (fun c_106 => ?_)
                      refine xg_iconst (v := 0) (pc := 109) dX7_notCopied_109 (by decide) ?_
                      refine xg_goto (pc := 110) (tgt := 115) dX7_notCopied_110 (by decide) ?_
                      exact xg_iret (pc := 115) dX7_notCopied_115 rfl (⟨by unfold ncR; rw [if_pos ⟨c_4, c_11⟩, esn, etn]; rw [if_neg (fun q => q.elim c_23 c_32)]; rw [if_pos c_50]; rw [if_pos ⟨(rg_iff hz0.1 hz0.2).mpr ⟨Int32.not_lt.mp c_58, Int32.not_lt.mp c_62, Int32.not_lt.mp c_80⟩, (rg_iff hz1.1 hz1.2).mpr ⟨Int32.not_lt.mp c_58, Int32.not_lt.mp c_67, Int32.not_lt.mp c_94⟩⟩], rfl⟩)
          ·
            refine xg_ldc (v := -1000000003) (pc := 53) dX7_notCopied_53 ccX7_109 ?_
            exact xg_iret (pc := 55) dX7_notCopied_55 rfl (⟨by unfold ncR; rw [if_pos ⟨c_4, c_11⟩, esn, etn]; rw [if_neg (fun q => q.elim c_23 c_32)]; rw [if_neg c_50], rfl⟩)
        ·
          refine xg_ldc (v := -1000000006) (pc := 35) dX7_notCopied_35 ccX7_231 ?_
          exact xg_iret (pc := 37) dX7_notCopied_37 rfl (⟨by unfold ncR; rw [if_pos ⟨c_4, c_11⟩, esn, etn]; rw [if_pos (Or.inr c_32)], rfl⟩)
    ·
      refine xg_ldc (v := -1000000001) (pc := 14) dX7_notCopied_14 ccX7_42 ?_
      exact xg_iret (pc := 16) dX7_notCopied_16 rfl (⟨by unfold ncR; rw [if_neg (fun q => c_11 q.2)], rfl⟩)
set_option maxRecDepth 100000 in
theorem lp_X7_copyF {sn an tn bn nn : Nat} (hsn : sn ≤ 3) (htn : tn ≤ 3) (ha : an + nn ≤ 40) (hb : bn + nn ≤ 40) (hd : bn ≤ an) : ∀ (k tq : Nat), tq + k = nn → ∀ (l8 : Option Value), xGo X false (d + 3) 0 0 mX7_copy 28 [some (.ref 62), some (.int (nI sn)), some (.int (nI an)), some (.int (nI tn)), some (.int (nI bn)), some (.int (nI nn)), some (.int 0), some (.int (nI tq)), l8] [] (hp lk o mf wf (q.1, q.2.1, q.2.2.1, q.2.2.2.1, q.2.2.2.2.1, q.2.2.2.2.2.1, q.2.2.2.2.2.2.1, q.2.2.2.2.2.2.2.1, q.2.2.2.2.2.2.2.2.1, q.2.2.2.2.2.2.2.2.2.1, q.2.2.2.2.2.2.2.2.2.2.1, q.2.2.2.2.2.2.2.2.2.2.2.1, q.2.2.2.2.2.2.2.2.2.2.2.2.1, q.2.2.2.2.2.2.2.2.2.2.2.2.2.1, va_cpy q.2.2.2.2.2.2.2.2.2.2.2.2.2.2 q.2.2.2.2.2.2.2.2.2.2.2.2.2.2 (40 * sn + an) (40 * tn + bn) tq)) (RP lk o (.int (nI nn), qS q (qB q) (qZ q) (va_cpy (qC q) (qC q) (40 * sn + an) (40 * tn + bn) nn), mf)) := by
  intro k
  induction k with
  | zero =>
    intro tq ht l8
    have etq : tq = nn := by omega
    subst etq
    refine xg_iload (pc := 28) dX7_copy_28 rfl ?_
    refine xg_iload (pc := 30) dX7_copy_30 rfl ?_
    refine xg_icmp_ge (pc := 32) (tgt := 90) dX7_copy_32 (by decide) (fun c_32 => ?_) (fun c_32 => absurd c_32 (fun q => q (nI_le (by omega) (by omega))))
    refine xg_iload (pc := 90) dX7_copy_90 rfl ?_
    exact xg_iret (pc := 92) dX7_copy_92 rfl (rpR (by rfl) eq65.rf)
  | succ k ih =>
    intro tq ht l8
    refine xg_iload (pc := 28) dX7_copy_28 rfl ?_
    refine xg_iload (pc := 30) dX7_copy_30 rfl ?_
    refine xg_icmp_ge (pc := 32) (tgt := 90) dX7_copy_32 (by decide) (fun c_32 => absurd c_32 (nI_ge (by omega) (by omega))) (fun c_32 => ?_)
    refine xg_iload_n (pc := 35) dX7_copy_35 rfl ?_
    refine xg_iload (pc := 36) dX7_copy_36 rfl ?_
    refine xg_icmp_ge (pc := 38) (tgt := 51) dX7_copy_38 (by decide) (fun c_38 => ?_) (fun c_38 => absurd c_38 (fun zq => zq (nI_le (by omega) (by omega))))
    refine xg_iload (pc := 51) dX7_copy_51 rfl ?_
    refine xg_istore (pc := 53) (ls' := [some (.ref 62), some (.int (nI sn)), some (.int (nI an)), some (.int (nI tn)), some (.int (nI bn)), some (.int (nI nn)), some (.int 0), some (.int (nI tq)), some (.int (nI tq))]) dX7_copy_53 (by decide) rfl ?_
    refine xg_aload_n (pc := 55) dX7_copy_55 rfl ?_
    refine xg_get (pc := 56) dX7_copy_56 flX7_38 hp_62 rfl ?_
    refine xg_bipush (v := 40) (pc := 59) dX7_copy_59 (by decide) ?_
    refine xg_iload_n (pc := 61) dX7_copy_61 rfl ?_
    refine xg_imul (pc := 62) dX7_copy_62 ?_
    refine xg_iload (pc := 63) dX7_copy_63 rfl ?_
    refine xg_iadd (pc := 65) dX7_copy_65 ?_
    refine xg_iload (pc := 66) dX7_copy_66 rfl ?_
    refine xg_iadd (pc := 68) dX7_copy_68 ?_
    refine xg_aload_n (pc := 69) dX7_copy_69 rfl ?_
    refine xg_get (pc := 70) dX7_copy_70 flX7_38 hp_62 rfl ?_
    refine xg_bipush (v := 40) (pc := 73) dX7_copy_73 (by decide) ?_
    refine xg_iload_n (pc := 75) dX7_copy_75 rfl ?_
    refine xg_imul (pc := 76) dX7_copy_76 ?_
    refine xg_iload_n (pc := 77) dX7_copy_77 rfl ?_
    refine xg_iadd (pc := 78) dX7_copy_78 ?_
    refine xg_iload (pc := 79) dX7_copy_79 rfl ?_
    refine xg_iadd (pc := 81) dX7_copy_81 ?_
    refine xg_lald (pc := 82) (40 * sn + an + tq) dX7_copy_82 hp_72 (by simp only [xlit, nI_add, pk_mul]) (by omega) (by decide) ?_
    refine xg_last (pc := 83) (h' := hp lk o mf wf (q.1, q.2.1, q.2.2.1, q.2.2.2.1, q.2.2.2.2.1, q.2.2.2.2.2.1, q.2.2.2.2.2.2.1, q.2.2.2.2.2.2.2.1, q.2.2.2.2.2.2.2.2.1, q.2.2.2.2.2.2.2.2.2.1, q.2.2.2.2.2.2.2.2.2.2.1, q.2.2.2.2.2.2.2.2.2.2.2.1, q.2.2.2.2.2.2.2.2.2.2.2.2.1, q.2.2.2.2.2.2.2.2.2.2.2.2.2.1, vp_updL (va_cpy q.2.2.2.2.2.2.2.2.2.2.2.2.2.2 q.2.2.2.2.2.2.2.2.2.2.2.2.2.2 (40 * sn + an) (40 * tn + bn) tq) (40 * tn + bn + tq) ((va_cpy q.2.2.2.2.2.2.2.2.2.2.2.2.2.2 q.2.2.2.2.2.2.2.2.2.2.2.2.2.2 (40 * sn + an) (40 * tn + bn) tq) (40 * sn + an + tq)))) (40 * tn + bn + tq) dX7_copy_83 hp_72 (by simp only [xlit, nI_add, pk_mul]) (by omega) (by decide) hs_ce ?_
    refine xg_iinc (pc := 84) (y := nI (tq + 1)) (ls' := [some (.ref 62), some (.int (nI sn)), some (.int (nI an)), some (.int (nI tn)), some (.int (nI bn)), some (.int (nI nn)), some (.int 0), some (.int (nI (tq + 1))), some (.int (nI tq))]) dX7_copy_84 rfl (xinc _) (by decide) rfl ?_
    refine xg_goto (pc := 87) (tgt := 28) dX7_copy_87 (by decide) ?_
    rw [show vp_updL (va_cpy q.2.2.2.2.2.2.2.2.2.2.2.2.2.2 q.2.2.2.2.2.2.2.2.2.2.2.2.2.2 (40 * sn + an) (40 * tn + bn) tq) (40 * tn + bn + tq) ((va_cpy q.2.2.2.2.2.2.2.2.2.2.2.2.2.2 q.2.2.2.2.2.2.2.2.2.2.2.2.2.2 (40 * sn + an) (40 * tn + bn) tq) (40 * sn + an + tq)) = va_cpy q.2.2.2.2.2.2.2.2.2.2.2.2.2.2 q.2.2.2.2.2.2.2.2.2.2.2.2.2.2 (40 * sn + an) (40 * tn + bn) (tq + 1) from cp_fw (n := nn) (by omega) (by omega)]
    exact ih (tq + 1) (by omega) _
set_option maxRecDepth 100000 in
theorem lp_X7_copyB {sn an tn bn nn : Nat} (hsn : sn ≤ 3) (htn : tn ≤ 3) (ha : an + nn ≤ 40) (hb : bn + nn ≤ 40) (hd : an < bn) : ∀ (k tq : Nat), tq + k = nn → ∀ (l8 : Option Value), xGo X false (d + 3) 0 0 mX7_copy 28 [some (.ref 62), some (.int (nI sn)), some (.int (nI an)), some (.int (nI tn)), some (.int (nI bn)), some (.int (nI nn)), some (.int 0), some (.int (nI tq)), l8] [] (hp lk o mf wf (q.1, q.2.1, q.2.2.1, q.2.2.2.1, q.2.2.2.2.1, q.2.2.2.2.2.1, q.2.2.2.2.2.2.1, q.2.2.2.2.2.2.2.1, q.2.2.2.2.2.2.2.2.1, q.2.2.2.2.2.2.2.2.2.1, q.2.2.2.2.2.2.2.2.2.2.1, q.2.2.2.2.2.2.2.2.2.2.2.1, q.2.2.2.2.2.2.2.2.2.2.2.2.1, q.2.2.2.2.2.2.2.2.2.2.2.2.2.1, va_cpy q.2.2.2.2.2.2.2.2.2.2.2.2.2.2 q.2.2.2.2.2.2.2.2.2.2.2.2.2.2 ((40 * sn + an) + (nn - tq)) ((40 * tn + bn) + (nn - tq)) tq)) (RP lk o (.int (nI nn), qS q (qB q) (qZ q) (va_cpy (qC q) (qC q) (40 * sn + an) (40 * tn + bn) nn), mf)) := by
  intro k
  induction k with
  | zero =>
    intro tq ht l8
    have etq : tq = nn := by omega
    subst etq
    refine xg_iload (pc := 28) dX7_copy_28 rfl ?_
    refine xg_iload (pc := 30) dX7_copy_30 rfl ?_
    refine xg_icmp_ge (pc := 32) (tgt := 90) dX7_copy_32 (by decide) (fun c_32 => ?_) (fun c_32 => absurd c_32 (fun q => q (nI_le (by omega) (by omega))))
    refine xg_iload (pc := 90) dX7_copy_90 rfl ?_
    exact xg_iret (pc := 92) dX7_copy_92 rfl (rpR (by rw [Nat.sub_self]; rfl) eq65.rf)
  | succ k ih =>
    intro tq ht l8
    refine xg_iload (pc := 28) dX7_copy_28 rfl ?_
    refine xg_iload (pc := 30) dX7_copy_30 rfl ?_
    refine xg_icmp_ge (pc := 32) (tgt := 90) dX7_copy_32 (by decide) (fun c_32 => absurd c_32 (nI_ge (by omega) (by omega))) (fun c_32 => ?_)
    refine xg_iload_n (pc := 35) dX7_copy_35 rfl ?_
    refine xg_iload (pc := 36) dX7_copy_36 rfl ?_
    refine xg_icmp_ge (pc := 38) (tgt := 51) dX7_copy_38 (by decide) (fun c_38 => absurd c_38 (nI_ge (by omega) (by omega))) (fun c_38 => ?_)
    refine xg_iload (pc := 41) dX7_copy_41 rfl ?_
    refine xg_iconst (v := 1) (pc := 43) dX7_copy_43 (by decide) ?_
    refine xg_isub (pc := 44) dX7_copy_44 ?_
    refine xg_eq (pk_sub (b := 1) (by omega)) ?_
    refine xg_iload (pc := 45) dX7_copy_45 rfl ?_
    refine xg_isub (pc := 47) dX7_copy_47 ?_
    refine xg_eq (pk_sub (by omega)) ?_
    refine xg_goto (pc := 48) (tgt := 53) dX7_copy_48 (by decide) ?_
    refine xg_istore (pc := 53) (ls' := [some (.ref 62), some (.int (nI sn)), some (.int (nI an)), some (.int (nI tn)), some (.int (nI bn)), some (.int (nI nn)), some (.int 0), some (.int (nI tq)), some (.int (nI (nn - 1 - tq)))]) dX7_copy_53 (by decide) rfl ?_
    refine xg_aload_n (pc := 55) dX7_copy_55 rfl ?_
    refine xg_get (pc := 56) dX7_copy_56 flX7_38 hp_62 rfl ?_
    refine xg_bipush (v := 40) (pc := 59) dX7_copy_59 (by decide) ?_
    refine xg_iload_n (pc := 61) dX7_copy_61 rfl ?_
    refine xg_imul (pc := 62) dX7_copy_62 ?_
    refine xg_iload (pc := 63) dX7_copy_63 rfl ?_
    refine xg_iadd (pc := 65) dX7_copy_65 ?_
    refine xg_iload (pc := 66) dX7_copy_66 rfl ?_
    refine xg_iadd (pc := 68) dX7_copy_68 ?_
    refine xg_aload_n (pc := 69) dX7_copy_69 rfl ?_
    refine xg_get (pc := 70) dX7_copy_70 flX7_38 hp_62 rfl ?_
    refine xg_bipush (v := 40) (pc := 73) dX7_copy_73 (by decide) ?_
    refine xg_iload_n (pc := 75) dX7_copy_75 rfl ?_
    refine xg_imul (pc := 76) dX7_copy_76 ?_
    refine xg_iload_n (pc := 77) dX7_copy_77 rfl ?_
    refine xg_iadd (pc := 78) dX7_copy_78 ?_
    refine xg_iload (pc := 79) dX7_copy_79 rfl ?_
    refine xg_iadd (pc := 81) dX7_copy_81 ?_
    refine xg_lald (pc := 82) (40 * sn + an + (nn - 1 - tq)) dX7_copy_82 hp_72 (by simp only [xlit, nI_add, pk_mul]) (by omega) (by decide) ?_
    refine xg_last (pc := 83) (h' := hp lk o mf wf (q.1, q.2.1, q.2.2.1, q.2.2.2.1, q.2.2.2.2.1, q.2.2.2.2.2.1, q.2.2.2.2.2.2.1, q.2.2.2.2.2.2.2.1, q.2.2.2.2.2.2.2.2.1, q.2.2.2.2.2.2.2.2.2.1, q.2.2.2.2.2.2.2.2.2.2.1, q.2.2.2.2.2.2.2.2.2.2.2.1, q.2.2.2.2.2.2.2.2.2.2.2.2.1, q.2.2.2.2.2.2.2.2.2.2.2.2.2.1, vp_updL (va_cpy q.2.2.2.2.2.2.2.2.2.2.2.2.2.2 q.2.2.2.2.2.2.2.2.2.2.2.2.2.2 ((40 * sn + an) + (nn - tq)) ((40 * tn + bn) + (nn - tq)) tq) (40 * tn + bn + (nn - 1 - tq)) ((va_cpy q.2.2.2.2.2.2.2.2.2.2.2.2.2.2 q.2.2.2.2.2.2.2.2.2.2.2.2.2.2 ((40 * sn + an) + (nn - tq)) ((40 * tn + bn) + (nn - tq)) tq) (40 * sn + an + (nn - 1 - tq))))) (40 * tn + bn + (nn - 1 - tq)) dX7_copy_83 hp_72 (by simp only [xlit, nI_add, pk_mul]) (by omega) (by decide) hs_ce ?_
    refine xg_iinc (pc := 84) (y := nI (tq + 1)) (ls' := [some (.ref 62), some (.int (nI sn)), some (.int (nI an)), some (.int (nI tn)), some (.int (nI bn)), some (.int (nI nn)), some (.int 0), some (.int (nI (tq + 1))), some (.int (nI (nn - 1 - tq)))]) dX7_copy_84 rfl (xinc _) (by decide) rfl ?_
    refine xg_goto (pc := 87) (tgt := 28) dX7_copy_87 (by decide) ?_
    rw [show vp_updL (va_cpy q.2.2.2.2.2.2.2.2.2.2.2.2.2.2 q.2.2.2.2.2.2.2.2.2.2.2.2.2.2 ((40 * sn + an) + (nn - tq)) ((40 * tn + bn) + (nn - tq)) tq) (40 * tn + bn + (nn - 1 - tq)) ((va_cpy q.2.2.2.2.2.2.2.2.2.2.2.2.2.2 q.2.2.2.2.2.2.2.2.2.2.2.2.2.2 ((40 * sn + an) + (nn - tq)) ((40 * tn + bn) + (nn - tq)) tq) (40 * sn + an + (nn - 1 - tq))) = va_cpy q.2.2.2.2.2.2.2.2.2.2.2.2.2.2 q.2.2.2.2.2.2.2.2.2.2.2.2.2.2 ((40 * sn + an) + (nn - (tq + 1))) ((40 * tn + bn) + (nn - (tq + 1))) (tq + 1) from cp_bw (n := nn) (by omega) (by omega)]
    exact ih (tq + 1) (by omega) _
set_option maxRecDepth 100000 in
set_option maxHeartbeats 4000000 in
theorem ev_X7_copy {s a t b n : Int32} (okz : okS (qZ q)) : xEv X false (d + 3) 0 0 mX7_copy [.ref 62, .int s, .int a, .int t, .int b, .int n] (hp lk o mf wf q) (RP lk o (r_copy q mf s a t b n)) := by
  refine xEv.of (ls := [some (.ref 62), some (.int s), some (.int a), some (.int t), some (.int b), some (.int n), none, none, none]) mcX7_copy.1.2.2.2.2 (Nat.le_of_ble_eq_true rfl) rfl ?_
  rcases nc4 (f := mf) (s := s) (a := a) (t := t) (b := b) (n := n) okz with ⟨hnc, er⟩ | ⟨hnc, er⟩ | ⟨hnc, er⟩ | ⟨hnc, sn, tn, an, bn, nn, hsn, htn, rfl, rfl, rfl, rfl, rfl, ha, hb, er⟩
  ·
    refine xg_aload_n (pc := 0) dX7_copy_0 rfl ?_
    refine xg_iload_n (pc := 1) dX7_copy_1 rfl ?_
    refine xg_iload_n (pc := 2) dX7_copy_2 rfl ?_
    refine xg_iload_n (pc := 3) dX7_copy_3 rfl ?_
    refine xg_iload (pc := 4) dX7_copy_4 rfl ?_
    refine xg_iload (pc := 6) dX7_copy_6 rfl ?_
    refine xg_cvI (pc := 8) (h1 := hp lk o mf wf q) (x := ncR q s a t b n) (M' := mX7_notCopied) dX7_copy_8 lkX7_239 mcX7_notCopied hp_62 rfl (ev_X7_notCopied okz) rfl rfl (Nat.le_of_ble_eq_true rfl) ?_
    refine xg_eq hnc ?_
    refine xg_istore (pc := 11) (ls' := [some (.ref 62), some (.int s), some (.int a), some (.int t), some (.int b), some (.int n), some (.int (-1000000001)), none, none]) dX7_copy_11 (by decide) rfl ?_
    refine xg_iload (pc := 13) dX7_copy_13 rfl ?_
    refine xg_if_eq (pc := 15) (tgt := 25) dX7_copy_15 (by decide) (fun c_15 => absurd c_15 (by decide)) (fun c_15 => ?_)
    refine xg_aload_n (pc := 18) dX7_copy_18 rfl ?_
    refine xg_iload (pc := 19) dX7_copy_19 rfl ?_
    refine xg_cvI (pc := 21) (h1 := hp lk o mf wf (q.1, q.2.1, upd q.2.2.1 0 (q.2.2.1 0 + 1), q.2.2.2.1, q.2.2.2.2.1, q.2.2.2.2.2.1, q.2.2.2.2.2.2.1, q.2.2.2.2.2.2.2.1, q.2.2.2.2.2.2.2.2.1, q.2.2.2.2.2.2.2.2.2.1, q.2.2.2.2.2.2.2.2.2.2.1, q.2.2.2.2.2.2.2.2.2.2.2.1, q.2.2.2.2.2.2.2.2.2.2.2.2.1, q.2.2.2.2.2.2.2.2.2.2.2.2.2.1, q.2.2.2.2.2.2.2.2.2.2.2.2.2.2)) (x := -1000000001) (M' := mX7_finds) dX7_copy_21 lkX7_44 mcX7_finds hp_62 rfl (ev_X7_finds (j := 0) (by decide) (by decide)) rfl rfl (Nat.le_of_ble_eq_true rfl) ?_
    exact xg_iret (pc := 24) dX7_copy_24 rfl (rpR (by exact er) eq65.rf)
  ·
    refine xg_aload_n (pc := 0) dX7_copy_0 rfl ?_
    refine xg_iload_n (pc := 1) dX7_copy_1 rfl ?_
    refine xg_iload_n (pc := 2) dX7_copy_2 rfl ?_
    refine xg_iload_n (pc := 3) dX7_copy_3 rfl ?_
    refine xg_iload (pc := 4) dX7_copy_4 rfl ?_
    refine xg_iload (pc := 6) dX7_copy_6 rfl ?_
    refine xg_cvI (pc := 8) (h1 := hp lk o mf wf q) (x := ncR q s a t b n) (M' := mX7_notCopied) dX7_copy_8 lkX7_239 mcX7_notCopied hp_62 rfl (ev_X7_notCopied okz) rfl rfl (Nat.le_of_ble_eq_true rfl) ?_
    refine xg_eq hnc ?_
    refine xg_istore (pc := 11) (ls' := [some (.ref 62), some (.int s), some (.int a), some (.int t), some (.int b), some (.int n), some (.int (-1000000006)), none, none]) dX7_copy_11 (by decide) rfl ?_
    refine xg_iload (pc := 13) dX7_copy_13 rfl ?_
    refine xg_if_eq (pc := 15) (tgt := 25) dX7_copy_15 (by decide) (fun c_15 => absurd c_15 (by decide)) (fun c_15 => ?_)
    refine xg_aload_n (pc := 18) dX7_copy_18 rfl ?_
    refine xg_iload (pc := 19) dX7_copy_19 rfl ?_
    refine xg_cvI (pc := 21) (h1 := hp lk o mf wf (q.1, q.2.1, upd q.2.2.1 5 (q.2.2.1 5 + 1), q.2.2.2.1, q.2.2.2.2.1, q.2.2.2.2.2.1, q.2.2.2.2.2.2.1, q.2.2.2.2.2.2.2.1, q.2.2.2.2.2.2.2.2.1, q.2.2.2.2.2.2.2.2.2.1, q.2.2.2.2.2.2.2.2.2.2.1, q.2.2.2.2.2.2.2.2.2.2.2.1, q.2.2.2.2.2.2.2.2.2.2.2.2.1, q.2.2.2.2.2.2.2.2.2.2.2.2.2.1, q.2.2.2.2.2.2.2.2.2.2.2.2.2.2)) (x := -1000000006) (M' := mX7_finds) dX7_copy_21 lkX7_44 mcX7_finds hp_62 rfl (ev_X7_finds (j := 5) (by decide) (by decide)) rfl rfl (Nat.le_of_ble_eq_true rfl) ?_
    exact xg_iret (pc := 24) dX7_copy_24 rfl (rpR (by exact er) eq65.rf)
  ·
    refine xg_aload_n (pc := 0) dX7_copy_0 rfl ?_
    refine xg_iload_n (pc := 1) dX7_copy_1 rfl ?_
    refine xg_iload_n (pc := 2) dX7_copy_2 rfl ?_
    refine xg_iload_n (pc := 3) dX7_copy_3 rfl ?_
    refine xg_iload (pc := 4) dX7_copy_4 rfl ?_
    refine xg_iload (pc := 6) dX7_copy_6 rfl ?_
    refine xg_cvI (pc := 8) (h1 := hp lk o mf wf q) (x := ncR q s a t b n) (M' := mX7_notCopied) dX7_copy_8 lkX7_239 mcX7_notCopied hp_62 rfl (ev_X7_notCopied okz) rfl rfl (Nat.le_of_ble_eq_true rfl) ?_
    refine xg_eq hnc ?_
    refine xg_istore (pc := 11) (ls' := [some (.ref 62), some (.int s), some (.int a), some (.int t), some (.int b), some (.int n), some (.int (-1000000003)), none, none]) dX7_copy_11 (by decide) rfl ?_
    refine xg_iload (pc := 13) dX7_copy_13 rfl ?_
    refine xg_if_eq (pc := 15) (tgt := 25) dX7_copy_15 (by decide) (fun c_15 => absurd c_15 (by decide)) (fun c_15 => ?_)
    refine xg_aload_n (pc := 18) dX7_copy_18 rfl ?_
    refine xg_iload (pc := 19) dX7_copy_19 rfl ?_
    refine xg_cvI (pc := 21) (h1 := hp lk o mf wf (q.1, q.2.1, upd q.2.2.1 2 (q.2.2.1 2 + 1), q.2.2.2.1, q.2.2.2.2.1, q.2.2.2.2.2.1, q.2.2.2.2.2.2.1, q.2.2.2.2.2.2.2.1, q.2.2.2.2.2.2.2.2.1, q.2.2.2.2.2.2.2.2.2.1, q.2.2.2.2.2.2.2.2.2.2.1, q.2.2.2.2.2.2.2.2.2.2.2.1, q.2.2.2.2.2.2.2.2.2.2.2.2.1, q.2.2.2.2.2.2.2.2.2.2.2.2.2.1, q.2.2.2.2.2.2.2.2.2.2.2.2.2.2)) (x := -1000000003) (M' := mX7_finds) dX7_copy_21 lkX7_44 mcX7_finds hp_62 rfl (ev_X7_finds (j := 2) (by decide) (by decide)) rfl rfl (Nat.le_of_ble_eq_true rfl) ?_
    exact xg_iret (pc := 24) dX7_copy_24 rfl (rpR (by exact er) eq65.rf)
  ·
    refine xg_aload_n (pc := 0) dX7_copy_0 rfl ?_
    refine xg_iload_n (pc := 1) dX7_copy_1 rfl ?_
    refine xg_iload_n (pc := 2) dX7_copy_2 rfl ?_
    refine xg_iload_n (pc := 3) dX7_copy_3 rfl ?_
    refine xg_iload (pc := 4) dX7_copy_4 rfl ?_
    refine xg_iload (pc := 6) dX7_copy_6 rfl ?_
    refine xg_cvI (pc := 8) (h1 := hp lk o mf wf q) (x := ncR q (nI sn) (nI an) (nI tn) (nI bn) (nI nn)) (M' := mX7_notCopied) dX7_copy_8 lkX7_239 mcX7_notCopied hp_62 rfl (ev_X7_notCopied okz) rfl rfl (Nat.le_of_ble_eq_true rfl) ?_
    refine xg_eq hnc ?_
    refine xg_istore (pc := 11) (ls' := [some (.ref 62), some (.int (nI sn)), some (.int (nI an)), some (.int (nI tn)), some (.int (nI bn)), some (.int (nI nn)), some (.int 0), none, none]) dX7_copy_11 (by decide) rfl ?_
    refine xg_iload (pc := 13) dX7_copy_13 rfl ?_
    refine xg_if_eq (pc := 15) (tgt := 25) dX7_copy_15 (by decide) (fun c_15 => ?_) (fun c_15 => absurd c_15 (by decide))
    refine xg_iconst (v := 0) (pc := 25) dX7_copy_25 (by decide) ?_
    refine xg_istore (pc := 26) (ls' := [some (.ref 62), some (.int (nI sn)), some (.int (nI an)), some (.int (nI tn)), some (.int (nI bn)), some (.int (nI nn)), some (.int 0), some (.int 0), none]) dX7_copy_26 (by decide) rfl ?_
    rw [er]
    by_cases hd : bn ≤ an
    · have z := lp_X7_copyF (X := X) (d := d) (lk := lk) (o := o) (mf := mf) (wf := wf) (q := q) hsn htn ha hb hd nn 0 (by omega) none
      rw [cpy0] at z
      exact z
    · have z := lp_X7_copyB (X := X) (d := d) (lk := lk) (o := o) (mf := mf) (wf := wf) (q := q) hsn htn ha hb (by omega) nn 0 (by omega) none
      rw [cpy0] at z
      exact z
end
