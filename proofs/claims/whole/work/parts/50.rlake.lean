section
variable {X : xS} {d : Nat} {lk : Nat → Nat → Int32} {o : xO} {mf wf : Nat → Int32} {q : xQ} {L : Nat}
theorem neg_b {n : Nat} (h : n ≤ 120) : (-1 : Int32) - nI n < 0 := by
  rw [Int32.lt_iff_toInt_lt, Int32.toInt_sub, nI_toInt (by omega), show (-1 : Int32).toInt = -1 from by decide, show (0 : Int32).toInt = 0 from by decide, Int.bmod_eq_of_le] <;> omega
set_option maxRecDepth 100000 in
set_option maxHeartbeats 4000000 in
theorem lp_lake (hL : q.2.2.2.2.2.2.1 = nI L) (hL2 : L ≤ 120) : ∀ (k i : Nat) (t : Tk) (f : Nat → Int32), i + k = 120 → 2 * i ≤ t.2.1 + 2 → okT q.2.2.2.2.2.1 L t → okP f → xGo X false (d + 7) 0 0 mX7_lake 24 [some (.ref 62), some (.int (nI i))] [] (hp lk o ((itI q.2.2.2.2.2.1 L t f).2.2) (cpF 65 mf wf) (qX q ((itI q.2.2.2.2.2.1 L t f).2.1) (bdO (itI q.2.2.2.2.2.1 L t f).1))) (RP lk o (.int (rdA q.2.2.2.2.2.1 L (k + 1) i t f).1, qT (qX q (rdA q.2.2.2.2.2.1 L (k + 1) i t f).2.2 (if (rdA q.2.2.2.2.2.1 L (k + 1) i t f).1 < 0 then 1 else 0)) 0 q.2.2.2.2.2.1, if (rdA q.2.2.2.2.2.1 L (k + 1) i t f).1 < 0 then mf else (rdA q.2.2.2.2.2.1 L (k + 1) i t f).2.1)) := by
  intro k
  induction k with
  | zero =>
    intro i t f hi hb okt okp
    have iq := itI_Q okp lvE.rf okt
    have okr := iq.2.2.2.2.1
    have hbg : ((itI q.2.2.2.2.2.1 L t f).2.1).2.1 ≤ 120 := Nat.le_trans okr.1 (Nat.le_trans okr.2.1 hL2)
    have hcl := cd_le (b := q.2.2.2.2.2.1) (t := (itI q.2.2.2.2.2.1 L t f).2.1)
    by_cases h0 : (itI q.2.2.2.2.2.1 L t f).1 = 0
    · rw [show bdO (itI q.2.2.2.2.2.1 L t f).1 = 1 from if_pos h0]
      refine xg_aload_n (pc := 24) dX7_lake_24 rfl ?_
      refine xg_bipush (v := 21) (pc := 25) dX7_lake_25 (by decide) ?_
      refine xg_cvI (pc := 27) (h1 := hp lk o ((itI q.2.2.2.2.2.1 L t f).2.2) (cpF 65 mf wf) (qX q ((itI q.2.2.2.2.2.1 L t f).2.1) 1)) (x := 0) (M' := mX7_passes) dX7_lake_27 lkX7_206 mcX7_passes hp_62 rfl (ev_paB) rfl rfl (Nat.le_of_ble_eq_true rfl) ?_
      refine xg_if_eq (pc := 30) (tgt := 43) dX7_lake_30 (by decide) (fun c_30 => ?_) (fun c_30 => absurd c_30 (by decide))
      refine xg_aload_n (pc := 43) dX7_lake_43 rfl ?_
      refine xg_aload_n (pc := 44) dX7_lake_44 rfl ?_
      refine xg_get (pc := 45) dX7_lake_45 flX7_199 hp_62 rfl ?_
      refine xg_eq (show _ = (1 : Int32) from rfl) ?_
      refine xg_if_ne (pc := 48) (tgt := 60) dX7_lake_48 (by decide) (fun c_48 => ?_) (fun c_48 => absurd c_48 (by decide))
      refine xg_iconst (v := 1) (pc := 60) dX7_lake_60 (by decide) ?_
      refine xg_goto (pc := 61) (tgt := 65) dX7_lake_61 (by decide) ?_
      refine xg_put (pc := 65) (h' := hp lk o ((itI q.2.2.2.2.2.1 L t f).2.2) (cpF 65 mf wf) (qX q ((itI q.2.2.2.2.2.1 L t f).2.1) 1)) dX7_lake_65 flX7_199 (Or.inl rfl) hp_62 (fun _ => ⟨rfl, rfl⟩) (Nat.le_of_ble_eq_true rfl) hs_bd ?_
      refine xg_aload_n (pc := 68) dX7_lake_68 rfl ?_
      refine xg_iconst (v := 0) (pc := 69) dX7_lake_69 (by decide) ?_
      refine xg_puti (pc := 70) (h' := hp lk o ((itI q.2.2.2.2.2.1 L t f).2.2) (cpF 65 mf wf) ((qX q ((itI q.2.2.2.2.2.1 L t f).2.1) 1).1, (qX q ((itI q.2.2.2.2.2.1 L t f).2.1) 1).2.1, (qX q ((itI q.2.2.2.2.2.1 L t f).2.1) 1).2.2.1, (qX q ((itI q.2.2.2.2.2.1 L t f).2.1) 1).2.2.2.1, (qX q ((itI q.2.2.2.2.2.1 L t f).2.1) 1).2.2.2.2.1, (qX q ((itI q.2.2.2.2.2.1 L t f).2.1) 1).2.2.2.2.2.1, 0, (qX q ((itI q.2.2.2.2.2.1 L t f).2.1) 1).2.2.2.2.2.2.2.1, (qX q ((itI q.2.2.2.2.2.1 L t f).2.1) 1).2.2.2.2.2.2.2.2.1, (qX q ((itI q.2.2.2.2.2.1 L t f).2.1) 1).2.2.2.2.2.2.2.2.2.1, (qX q ((itI q.2.2.2.2.2.1 L t f).2.1) 1).2.2.2.2.2.2.2.2.2.2.1, (qX q ((itI q.2.2.2.2.2.1 L t f).2.1) 1).2.2.2.2.2.2.2.2.2.2.2.1, (qX q ((itI q.2.2.2.2.2.1 L t f).2.1) 1).2.2.2.2.2.2.2.2.2.2.2.2.1, (qX q ((itI q.2.2.2.2.2.1 L t f).2.1) 1).2.2.2.2.2.2.2.2.2.2.2.2.2.1, (qX q ((itI q.2.2.2.2.2.1 L t f).2.1) 1).2.2.2.2.2.2.2.2.2.2.2.2.2.2)) dX7_lake_70 flX7_169 hp_62 (Nat.le_of_ble_eq_true rfl) hs_td ?_
      refine xg_aload_n (pc := 73) dX7_lake_73 rfl ?_
      refine xg_get (pc := 74) dX7_lake_74 flX7_199 hp_62 rfl ?_
      refine xg_eq (show _ = (1 : Int32) from rfl) ?_
      refine xg_if_ne (pc := 77) (tgt := 82) dX7_lake_77 (by decide) (fun c_77 => ?_) (fun c_77 => absurd c_77 (by decide))
      refine xg_aload_n (pc := 82) dX7_lake_82 rfl ?_
      refine xg_cvV (pc := 83) (h1 := hp lk o (cpF 65 (cpF 65 mf wf) ((itI q.2.2.2.2.2.1 L t f).2.2)) (cpF 65 mf wf) ((qX q ((itI q.2.2.2.2.2.1 L t f).2.1) 1).1, (qX q ((itI q.2.2.2.2.2.1 L t f).2.1) 1).2.1, (qX q ((itI q.2.2.2.2.2.1 L t f).2.1) 1).2.2.1, (qX q ((itI q.2.2.2.2.2.1 L t f).2.1) 1).2.2.2.1, (qX q ((itI q.2.2.2.2.2.1 L t f).2.1) 1).2.2.2.2.1, (qX q ((itI q.2.2.2.2.2.1 L t f).2.1) 1).2.2.2.2.2.1, 0, (qX q ((itI q.2.2.2.2.2.1 L t f).2.1) 1).2.2.2.2.2.2.2.1, (qX q ((itI q.2.2.2.2.2.1 L t f).2.1) 1).2.2.2.2.2.2.2.2.1, (qX q ((itI q.2.2.2.2.2.1 L t f).2.1) 1).2.2.2.2.2.2.2.2.2.1, (qX q ((itI q.2.2.2.2.2.1 L t f).2.1) 1).2.2.2.2.2.2.2.2.2.2.1, (qX q ((itI q.2.2.2.2.2.1 L t f).2.1) 1).2.2.2.2.2.2.2.2.2.2.2.1, (qX q ((itI q.2.2.2.2.2.1 L t f).2.1) 1).2.2.2.2.2.2.2.2.2.2.2.2.1, (qX q ((itI q.2.2.2.2.2.1 L t f).2.1) 1).2.2.2.2.2.2.2.2.2.2.2.2.2.1, (qX q ((itI q.2.2.2.2.2.1 L t f).2.1) 1).2.2.2.2.2.2.2.2.2.2.2.2.2.2)) (M' := mX7_putsBack) dX7_lake_83 lkX7_150 mcX7_putsBack hp_62 rfl (ev_X7_putsBack) rfl rfl (Nat.le_of_ble_eq_true rfl) ?_
      refine xg_iconst (v := -1) (pc := 86) dX7_lake_86 (by decide) ?_
      refine xg_aload_n (pc := 87) dX7_lake_87 rfl ?_
      refine xg_get (pc := 88) dX7_lake_88 flX7_176 hp_62 rfl ?_
      refine xg_eq (show _ = nI ((itI q.2.2.2.2.2.1 L t f).2.1).2.1 from rfl) ?_
      refine xg_isub (pc := 91) dX7_lake_91 ?_
      exact xg_iret (pc := 92) dX7_lake_92 rfl (rpR (by rw [show rdA q.2.2.2.2.2.1 L (0 + 1) i t f = (-1 - nI ((itI q.2.2.2.2.2.1 L t f).2.1).2.1, (itI q.2.2.2.2.2.1 L t f).2.2, (itI q.2.2.2.2.2.1 L t f).2.1) from if_pos h0]; simp only [if_pos (neg_b hbg)]; rfl) eq65_cp)
    · rw [show bdO (itI q.2.2.2.2.2.1 L t f).1 = 0 from if_neg h0]
      by_cases hz : ((itI q.2.2.2.2.2.1 L t f).2.1).1 = 0
      · have c22 : cd q.2.2.2.2.2.1 (itI q.2.2.2.2.2.1 L t f).2.1 = 22 := cd_22.mpr hz
        refine xg_aload_n (pc := 24) dX7_lake_24 rfl ?_
        refine xg_bipush (v := 21) (pc := 25) dX7_lake_25 (by decide) ?_
        refine xg_cvI (pc := 27) (h1 := hp lk o ((itI q.2.2.2.2.2.1 L t f).2.2) (cpF 65 mf wf) (qX q ((itI q.2.2.2.2.2.1 L t f).2.1) 0)) (x := 0) (M' := mX7_passes) dX7_lake_27 lkX7_206 mcX7_passes hp_62 rfl (ev_paN (w := 21) (by decide) (by omega)) rfl rfl (Nat.le_of_ble_eq_true rfl) ?_
        refine xg_if_eq (pc := 30) (tgt := 43) dX7_lake_30 (by decide) (fun c_30 => ?_) (fun c_30 => absurd c_30 (by decide))
        refine xg_aload_n (pc := 43) dX7_lake_43 rfl ?_
        refine xg_aload_n (pc := 44) dX7_lake_44 rfl ?_
        refine xg_get (pc := 45) dX7_lake_45 flX7_199 hp_62 rfl ?_
        refine xg_eq (show _ = (0 : Int32) from rfl) ?_
        refine xg_if_ne (pc := 48) (tgt := 60) dX7_lake_48 (by decide) (fun c_48 => absurd c_48 (by decide)) (fun c_48 => ?_)
        refine xg_aload_n (pc := 51) dX7_lake_51 rfl ?_
        refine xg_get (pc := 52) dX7_lake_52 flX7_192 hp_62 rfl ?_
        refine xg_eq (show _ = nI (cd q.2.2.2.2.2.1 ((itI q.2.2.2.2.2.1 L t f).2.1)) from rfl) ?_
        refine xg_bipush (v := 22) (pc := 55) dX7_lake_55 (by decide) ?_
        refine xg_icmp_eq (pc := 57) (tgt := 64) dX7_lake_57 (by decide) (fun c_57 => ?_) (fun c_57 => absurd c_57 (fun z => z (by rw [c22]; rfl)))
        refine xg_iconst (v := 0) (pc := 64) dX7_lake_64 (by decide) ?_
        refine xg_put (pc := 65) (h' := hp lk o ((itI q.2.2.2.2.2.1 L t f).2.2) (cpF 65 mf wf) (qX q ((itI q.2.2.2.2.2.1 L t f).2.1) 0)) dX7_lake_65 flX7_199 (Or.inl rfl) hp_62 (fun _ => ⟨rfl, rfl⟩) (Nat.le_of_ble_eq_true rfl) hs_bd ?_
        refine xg_aload_n (pc := 68) dX7_lake_68 rfl ?_
        refine xg_iconst (v := 0) (pc := 69) dX7_lake_69 (by decide) ?_
        refine xg_puti (pc := 70) (h' := hp lk o ((itI q.2.2.2.2.2.1 L t f).2.2) (cpF 65 mf wf) ((qX q ((itI q.2.2.2.2.2.1 L t f).2.1) 0).1, (qX q ((itI q.2.2.2.2.2.1 L t f).2.1) 0).2.1, (qX q ((itI q.2.2.2.2.2.1 L t f).2.1) 0).2.2.1, (qX q ((itI q.2.2.2.2.2.1 L t f).2.1) 0).2.2.2.1, (qX q ((itI q.2.2.2.2.2.1 L t f).2.1) 0).2.2.2.2.1, (qX q ((itI q.2.2.2.2.2.1 L t f).2.1) 0).2.2.2.2.2.1, 0, (qX q ((itI q.2.2.2.2.2.1 L t f).2.1) 0).2.2.2.2.2.2.2.1, (qX q ((itI q.2.2.2.2.2.1 L t f).2.1) 0).2.2.2.2.2.2.2.2.1, (qX q ((itI q.2.2.2.2.2.1 L t f).2.1) 0).2.2.2.2.2.2.2.2.2.1, (qX q ((itI q.2.2.2.2.2.1 L t f).2.1) 0).2.2.2.2.2.2.2.2.2.2.1, (qX q ((itI q.2.2.2.2.2.1 L t f).2.1) 0).2.2.2.2.2.2.2.2.2.2.2.1, (qX q ((itI q.2.2.2.2.2.1 L t f).2.1) 0).2.2.2.2.2.2.2.2.2.2.2.2.1, (qX q ((itI q.2.2.2.2.2.1 L t f).2.1) 0).2.2.2.2.2.2.2.2.2.2.2.2.2.1, (qX q ((itI q.2.2.2.2.2.1 L t f).2.1) 0).2.2.2.2.2.2.2.2.2.2.2.2.2.2)) dX7_lake_70 flX7_169 hp_62 (Nat.le_of_ble_eq_true rfl) hs_td ?_
        refine xg_aload_n (pc := 73) dX7_lake_73 rfl ?_
        refine xg_get (pc := 74) dX7_lake_74 flX7_199 hp_62 rfl ?_
        refine xg_eq (show _ = (0 : Int32) from rfl) ?_
        refine xg_if_ne (pc := 77) (tgt := 82) dX7_lake_77 (by decide) (fun c_77 => absurd c_77 (by decide)) (fun c_77 => ?_)
        refine xg_iload_n (pc := 80) dX7_lake_80 rfl ?_
        exact xg_iret (pc := 81) dX7_lake_81 rfl (rpR (by rw [show rdA q.2.2.2.2.2.1 L (0 + 1) i t f = (nI i, (itI q.2.2.2.2.2.1 L t f).2.2, (itI q.2.2.2.2.2.1 L t f).2.1) from (if_neg h0).trans (if_pos hz)]; simp only [if_neg (nI_pos (n := i) (by omega))]; rfl) eq65.rf)
      · have n22 : ¬ cd q.2.2.2.2.2.1 (itI q.2.2.2.2.2.1 L t f).2.1 = 22 := fun z => hz (cd_22.mp z)
        by_cases h3 : ((itI q.2.2.2.2.2.1 L t f).2.1).1 = 3
        · have c21 : cd q.2.2.2.2.2.1 (itI q.2.2.2.2.2.1 L t f).2.1 = 21 := cd_21.mpr h3
          have hgo := itI_go okp okt h0
          have ht0 := okt.2.2.2.2.2.1 hgo.2
          have hr0 := okr.2.2.2.2.2.1 hz
          have hnx := nx_ok okr
          have hL3 := okr.2.1
          exact absurd hi (by omega)
        · have n21 : ¬ cd q.2.2.2.2.2.1 (itI q.2.2.2.2.2.1 L t f).2.1 = 21 := fun z => h3 (cd_21.mp z)
          refine xg_aload_n (pc := 24) dX7_lake_24 rfl ?_
          refine xg_bipush (v := 21) (pc := 25) dX7_lake_25 (by decide) ?_
          refine xg_cvI (pc := 27) (h1 := hp lk o ((itI q.2.2.2.2.2.1 L t f).2.2) (cpF 65 mf wf) (qX q ((itI q.2.2.2.2.2.1 L t f).2.1) 0)) (x := 0) (M' := mX7_passes) dX7_lake_27 lkX7_206 mcX7_passes hp_62 rfl (ev_paN (w := 21) (by decide) n21) rfl rfl (Nat.le_of_ble_eq_true rfl) ?_
          refine xg_if_eq (pc := 30) (tgt := 43) dX7_lake_30 (by decide) (fun c_30 => ?_) (fun c_30 => absurd c_30 (by decide))
          refine xg_aload_n (pc := 43) dX7_lake_43 rfl ?_
          refine xg_aload_n (pc := 44) dX7_lake_44 rfl ?_
          refine xg_get (pc := 45) dX7_lake_45 flX7_199 hp_62 rfl ?_
          refine xg_eq (show _ = (0 : Int32) from rfl) ?_
          refine xg_if_ne (pc := 48) (tgt := 60) dX7_lake_48 (by decide) (fun c_48 => absurd c_48 (by decide)) (fun c_48 => ?_)
          refine xg_aload_n (pc := 51) dX7_lake_51 rfl ?_
          refine xg_get (pc := 52) dX7_lake_52 flX7_192 hp_62 rfl ?_
          refine xg_eq (show _ = nI (cd q.2.2.2.2.2.1 ((itI q.2.2.2.2.2.1 L t f).2.1)) from rfl) ?_
          refine xg_bipush (v := 22) (pc := 55) dX7_lake_55 (by decide) ?_
          refine xg_icmp_eq (pc := 57) (tgt := 64) dX7_lake_57 (by decide) (fun c_57 => absurd c_57 (fun z => n22 ((nI_eq (b := 22) (by omega) (by omega)).mp z))) (fun c_57 => ?_)
          refine xg_iconst (v := 1) (pc := 60) dX7_lake_60 (by decide) ?_
          refine xg_goto (pc := 61) (tgt := 65) dX7_lake_61 (by decide) ?_
          refine xg_put (pc := 65) (h' := hp lk o ((itI q.2.2.2.2.2.1 L t f).2.2) (cpF 65 mf wf) (qX q ((itI q.2.2.2.2.2.1 L t f).2.1) 1)) dX7_lake_65 flX7_199 (Or.inl rfl) hp_62 (fun _ => ⟨rfl, rfl⟩) (Nat.le_of_ble_eq_true rfl) hs_bd ?_
          refine xg_aload_n (pc := 68) dX7_lake_68 rfl ?_
          refine xg_iconst (v := 0) (pc := 69) dX7_lake_69 (by decide) ?_
          refine xg_puti (pc := 70) (h' := hp lk o ((itI q.2.2.2.2.2.1 L t f).2.2) (cpF 65 mf wf) ((qX q ((itI q.2.2.2.2.2.1 L t f).2.1) 1).1, (qX q ((itI q.2.2.2.2.2.1 L t f).2.1) 1).2.1, (qX q ((itI q.2.2.2.2.2.1 L t f).2.1) 1).2.2.1, (qX q ((itI q.2.2.2.2.2.1 L t f).2.1) 1).2.2.2.1, (qX q ((itI q.2.2.2.2.2.1 L t f).2.1) 1).2.2.2.2.1, (qX q ((itI q.2.2.2.2.2.1 L t f).2.1) 1).2.2.2.2.2.1, 0, (qX q ((itI q.2.2.2.2.2.1 L t f).2.1) 1).2.2.2.2.2.2.2.1, (qX q ((itI q.2.2.2.2.2.1 L t f).2.1) 1).2.2.2.2.2.2.2.2.1, (qX q ((itI q.2.2.2.2.2.1 L t f).2.1) 1).2.2.2.2.2.2.2.2.2.1, (qX q ((itI q.2.2.2.2.2.1 L t f).2.1) 1).2.2.2.2.2.2.2.2.2.2.1, (qX q ((itI q.2.2.2.2.2.1 L t f).2.1) 1).2.2.2.2.2.2.2.2.2.2.2.1, (qX q ((itI q.2.2.2.2.2.1 L t f).2.1) 1).2.2.2.2.2.2.2.2.2.2.2.2.1, (qX q ((itI q.2.2.2.2.2.1 L t f).2.1) 1).2.2.2.2.2.2.2.2.2.2.2.2.2.1, (qX q ((itI q.2.2.2.2.2.1 L t f).2.1) 1).2.2.2.2.2.2.2.2.2.2.2.2.2.2)) dX7_lake_70 flX7_169 hp_62 (Nat.le_of_ble_eq_true rfl) hs_td ?_
          refine xg_aload_n (pc := 73) dX7_lake_73 rfl ?_
          refine xg_get (pc := 74) dX7_lake_74 flX7_199 hp_62 rfl ?_
          refine xg_eq (show _ = (1 : Int32) from rfl) ?_
          refine xg_if_ne (pc := 77) (tgt := 82) dX7_lake_77 (by decide) (fun c_77 => ?_) (fun c_77 => absurd c_77 (by decide))
          refine xg_aload_n (pc := 82) dX7_lake_82 rfl ?_
          refine xg_cvV (pc := 83) (h1 := hp lk o (cpF 65 (cpF 65 mf wf) ((itI q.2.2.2.2.2.1 L t f).2.2)) (cpF 65 mf wf) ((qX q ((itI q.2.2.2.2.2.1 L t f).2.1) 1).1, (qX q ((itI q.2.2.2.2.2.1 L t f).2.1) 1).2.1, (qX q ((itI q.2.2.2.2.2.1 L t f).2.1) 1).2.2.1, (qX q ((itI q.2.2.2.2.2.1 L t f).2.1) 1).2.2.2.1, (qX q ((itI q.2.2.2.2.2.1 L t f).2.1) 1).2.2.2.2.1, (qX q ((itI q.2.2.2.2.2.1 L t f).2.1) 1).2.2.2.2.2.1, 0, (qX q ((itI q.2.2.2.2.2.1 L t f).2.1) 1).2.2.2.2.2.2.2.1, (qX q ((itI q.2.2.2.2.2.1 L t f).2.1) 1).2.2.2.2.2.2.2.2.1, (qX q ((itI q.2.2.2.2.2.1 L t f).2.1) 1).2.2.2.2.2.2.2.2.2.1, (qX q ((itI q.2.2.2.2.2.1 L t f).2.1) 1).2.2.2.2.2.2.2.2.2.2.1, (qX q ((itI q.2.2.2.2.2.1 L t f).2.1) 1).2.2.2.2.2.2.2.2.2.2.2.1, (qX q ((itI q.2.2.2.2.2.1 L t f).2.1) 1).2.2.2.2.2.2.2.2.2.2.2.2.1, (qX q ((itI q.2.2.2.2.2.1 L t f).2.1) 1).2.2.2.2.2.2.2.2.2.2.2.2.2.1, (qX q ((itI q.2.2.2.2.2.1 L t f).2.1) 1).2.2.2.2.2.2.2.2.2.2.2.2.2.2)) (M' := mX7_putsBack) dX7_lake_83 lkX7_150 mcX7_putsBack hp_62 rfl (ev_X7_putsBack) rfl rfl (Nat.le_of_ble_eq_true rfl) ?_
          refine xg_iconst (v := -1) (pc := 86) dX7_lake_86 (by decide) ?_
          refine xg_aload_n (pc := 87) dX7_lake_87 rfl ?_
          refine xg_get (pc := 88) dX7_lake_88 flX7_176 hp_62 rfl ?_
          refine xg_eq (show _ = nI ((itI q.2.2.2.2.2.1 L t f).2.1).2.1 from rfl) ?_
          refine xg_isub (pc := 91) dX7_lake_91 ?_
          exact xg_iret (pc := 92) dX7_lake_92 rfl (rpR (by rw [show rdA q.2.2.2.2.2.1 L (0 + 1) i t f = (-1 - nI ((itI q.2.2.2.2.2.1 L t f).2.1).2.1, (itI q.2.2.2.2.2.1 L t f).2.2, (itI q.2.2.2.2.2.1 L t f).2.1) from (if_neg h0).trans ((if_neg hz).trans (if_neg h3))]; simp only [if_pos (neg_b hbg)]; rfl) eq65_cp)
  | succ k ih =>
    intro i t f hi hb okt okp
    have iq := itI_Q okp lvE.rf okt
    have okr := iq.2.2.2.2.1
    have hbg : ((itI q.2.2.2.2.2.1 L t f).2.1).2.1 ≤ 120 := Nat.le_trans okr.1 (Nat.le_trans okr.2.1 hL2)
    have hcl := cd_le (b := q.2.2.2.2.2.1) (t := (itI q.2.2.2.2.2.1 L t f).2.1)
    by_cases h0 : (itI q.2.2.2.2.2.1 L t f).1 = 0
    · rw [show bdO (itI q.2.2.2.2.2.1 L t f).1 = 1 from if_pos h0]
      refine xg_aload_n (pc := 24) dX7_lake_24 rfl ?_
      refine xg_bipush (v := 21) (pc := 25) dX7_lake_25 (by decide) ?_
      refine xg_cvI (pc := 27) (h1 := hp lk o ((itI q.2.2.2.2.2.1 L t f).2.2) (cpF 65 mf wf) (qX q ((itI q.2.2.2.2.2.1 L t f).2.1) 1)) (x := 0) (M' := mX7_passes) dX7_lake_27 lkX7_206 mcX7_passes hp_62 rfl (ev_paB) rfl rfl (Nat.le_of_ble_eq_true rfl) ?_
      refine xg_if_eq (pc := 30) (tgt := 43) dX7_lake_30 (by decide) (fun c_30 => ?_) (fun c_30 => absurd c_30 (by decide))
      refine xg_aload_n (pc := 43) dX7_lake_43 rfl ?_
      refine xg_aload_n (pc := 44) dX7_lake_44 rfl ?_
      refine xg_get (pc := 45) dX7_lake_45 flX7_199 hp_62 rfl ?_
      refine xg_eq (show _ = (1 : Int32) from rfl) ?_
      refine xg_if_ne (pc := 48) (tgt := 60) dX7_lake_48 (by decide) (fun c_48 => ?_) (fun c_48 => absurd c_48 (by decide))
      refine xg_iconst (v := 1) (pc := 60) dX7_lake_60 (by decide) ?_
      refine xg_goto (pc := 61) (tgt := 65) dX7_lake_61 (by decide) ?_
      refine xg_put (pc := 65) (h' := hp lk o ((itI q.2.2.2.2.2.1 L t f).2.2) (cpF 65 mf wf) (qX q ((itI q.2.2.2.2.2.1 L t f).2.1) 1)) dX7_lake_65 flX7_199 (Or.inl rfl) hp_62 (fun _ => ⟨rfl, rfl⟩) (Nat.le_of_ble_eq_true rfl) hs_bd ?_
      refine xg_aload_n (pc := 68) dX7_lake_68 rfl ?_
      refine xg_iconst (v := 0) (pc := 69) dX7_lake_69 (by decide) ?_
      refine xg_puti (pc := 70) (h' := hp lk o ((itI q.2.2.2.2.2.1 L t f).2.2) (cpF 65 mf wf) ((qX q ((itI q.2.2.2.2.2.1 L t f).2.1) 1).1, (qX q ((itI q.2.2.2.2.2.1 L t f).2.1) 1).2.1, (qX q ((itI q.2.2.2.2.2.1 L t f).2.1) 1).2.2.1, (qX q ((itI q.2.2.2.2.2.1 L t f).2.1) 1).2.2.2.1, (qX q ((itI q.2.2.2.2.2.1 L t f).2.1) 1).2.2.2.2.1, (qX q ((itI q.2.2.2.2.2.1 L t f).2.1) 1).2.2.2.2.2.1, 0, (qX q ((itI q.2.2.2.2.2.1 L t f).2.1) 1).2.2.2.2.2.2.2.1, (qX q ((itI q.2.2.2.2.2.1 L t f).2.1) 1).2.2.2.2.2.2.2.2.1, (qX q ((itI q.2.2.2.2.2.1 L t f).2.1) 1).2.2.2.2.2.2.2.2.2.1, (qX q ((itI q.2.2.2.2.2.1 L t f).2.1) 1).2.2.2.2.2.2.2.2.2.2.1, (qX q ((itI q.2.2.2.2.2.1 L t f).2.1) 1).2.2.2.2.2.2.2.2.2.2.2.1, (qX q ((itI q.2.2.2.2.2.1 L t f).2.1) 1).2.2.2.2.2.2.2.2.2.2.2.2.1, (qX q ((itI q.2.2.2.2.2.1 L t f).2.1) 1).2.2.2.2.2.2.2.2.2.2.2.2.2.1, (qX q ((itI q.2.2.2.2.2.1 L t f).2.1) 1).2.2.2.2.2.2.2.2.2.2.2.2.2.2)) dX7_lake_70 flX7_169 hp_62 (Nat.le_of_ble_eq_true rfl) hs_td ?_
      refine xg_aload_n (pc := 73) dX7_lake_73 rfl ?_
      refine xg_get (pc := 74) dX7_lake_74 flX7_199 hp_62 rfl ?_
      refine xg_eq (show _ = (1 : Int32) from rfl) ?_
      refine xg_if_ne (pc := 77) (tgt := 82) dX7_lake_77 (by decide) (fun c_77 => ?_) (fun c_77 => absurd c_77 (by decide))
      refine xg_aload_n (pc := 82) dX7_lake_82 rfl ?_
      refine xg_cvV (pc := 83) (h1 := hp lk o (cpF 65 (cpF 65 mf wf) ((itI q.2.2.2.2.2.1 L t f).2.2)) (cpF 65 mf wf) ((qX q ((itI q.2.2.2.2.2.1 L t f).2.1) 1).1, (qX q ((itI q.2.2.2.2.2.1 L t f).2.1) 1).2.1, (qX q ((itI q.2.2.2.2.2.1 L t f).2.1) 1).2.2.1, (qX q ((itI q.2.2.2.2.2.1 L t f).2.1) 1).2.2.2.1, (qX q ((itI q.2.2.2.2.2.1 L t f).2.1) 1).2.2.2.2.1, (qX q ((itI q.2.2.2.2.2.1 L t f).2.1) 1).2.2.2.2.2.1, 0, (qX q ((itI q.2.2.2.2.2.1 L t f).2.1) 1).2.2.2.2.2.2.2.1, (qX q ((itI q.2.2.2.2.2.1 L t f).2.1) 1).2.2.2.2.2.2.2.2.1, (qX q ((itI q.2.2.2.2.2.1 L t f).2.1) 1).2.2.2.2.2.2.2.2.2.1, (qX q ((itI q.2.2.2.2.2.1 L t f).2.1) 1).2.2.2.2.2.2.2.2.2.2.1, (qX q ((itI q.2.2.2.2.2.1 L t f).2.1) 1).2.2.2.2.2.2.2.2.2.2.2.1, (qX q ((itI q.2.2.2.2.2.1 L t f).2.1) 1).2.2.2.2.2.2.2.2.2.2.2.2.1, (qX q ((itI q.2.2.2.2.2.1 L t f).2.1) 1).2.2.2.2.2.2.2.2.2.2.2.2.2.1, (qX q ((itI q.2.2.2.2.2.1 L t f).2.1) 1).2.2.2.2.2.2.2.2.2.2.2.2.2.2)) (M' := mX7_putsBack) dX7_lake_83 lkX7_150 mcX7_putsBack hp_62 rfl (ev_X7_putsBack) rfl rfl (Nat.le_of_ble_eq_true rfl) ?_
      refine xg_iconst (v := -1) (pc := 86) dX7_lake_86 (by decide) ?_
      refine xg_aload_n (pc := 87) dX7_lake_87 rfl ?_
      refine xg_get (pc := 88) dX7_lake_88 flX7_176 hp_62 rfl ?_
      refine xg_eq (show _ = nI ((itI q.2.2.2.2.2.1 L t f).2.1).2.1 from rfl) ?_
      refine xg_isub (pc := 91) dX7_lake_91 ?_
      exact xg_iret (pc := 92) dX7_lake_92 rfl (rpR (by rw [show rdA q.2.2.2.2.2.1 L (k + 1 + 1) i t f = (-1 - nI ((itI q.2.2.2.2.2.1 L t f).2.1).2.1, (itI q.2.2.2.2.2.1 L t f).2.2, (itI q.2.2.2.2.2.1 L t f).2.1) from if_pos h0]; simp only [if_pos (neg_b hbg)]; rfl) eq65_cp)
    · rw [show bdO (itI q.2.2.2.2.2.1 L t f).1 = 0 from if_neg h0]
      by_cases hz : ((itI q.2.2.2.2.2.1 L t f).2.1).1 = 0
      · have c22 : cd q.2.2.2.2.2.1 (itI q.2.2.2.2.2.1 L t f).2.1 = 22 := cd_22.mpr hz
        refine xg_aload_n (pc := 24) dX7_lake_24 rfl ?_
        refine xg_bipush (v := 21) (pc := 25) dX7_lake_25 (by decide) ?_
        refine xg_cvI (pc := 27) (h1 := hp lk o ((itI q.2.2.2.2.2.1 L t f).2.2) (cpF 65 mf wf) (qX q ((itI q.2.2.2.2.2.1 L t f).2.1) 0)) (x := 0) (M' := mX7_passes) dX7_lake_27 lkX7_206 mcX7_passes hp_62 rfl (ev_paN (w := 21) (by decide) (by omega)) rfl rfl (Nat.le_of_ble_eq_true rfl) ?_
        refine xg_if_eq (pc := 30) (tgt := 43) dX7_lake_30 (by decide) (fun c_30 => ?_) (fun c_30 => absurd c_30 (by decide))
        refine xg_aload_n (pc := 43) dX7_lake_43 rfl ?_
        refine xg_aload_n (pc := 44) dX7_lake_44 rfl ?_
        refine xg_get (pc := 45) dX7_lake_45 flX7_199 hp_62 rfl ?_
        refine xg_eq (show _ = (0 : Int32) from rfl) ?_
        refine xg_if_ne (pc := 48) (tgt := 60) dX7_lake_48 (by decide) (fun c_48 => absurd c_48 (by decide)) (fun c_48 => ?_)
        refine xg_aload_n (pc := 51) dX7_lake_51 rfl ?_
        refine xg_get (pc := 52) dX7_lake_52 flX7_192 hp_62 rfl ?_
        refine xg_eq (show _ = nI (cd q.2.2.2.2.2.1 ((itI q.2.2.2.2.2.1 L t f).2.1)) from rfl) ?_
        refine xg_bipush (v := 22) (pc := 55) dX7_lake_55 (by decide) ?_
        refine xg_icmp_eq (pc := 57) (tgt := 64) dX7_lake_57 (by decide) (fun c_57 => ?_) (fun c_57 => absurd c_57 (fun z => z (by rw [c22]; rfl)))
        refine xg_iconst (v := 0) (pc := 64) dX7_lake_64 (by decide) ?_
        refine xg_put (pc := 65) (h' := hp lk o ((itI q.2.2.2.2.2.1 L t f).2.2) (cpF 65 mf wf) (qX q ((itI q.2.2.2.2.2.1 L t f).2.1) 0)) dX7_lake_65 flX7_199 (Or.inl rfl) hp_62 (fun _ => ⟨rfl, rfl⟩) (Nat.le_of_ble_eq_true rfl) hs_bd ?_
        refine xg_aload_n (pc := 68) dX7_lake_68 rfl ?_
        refine xg_iconst (v := 0) (pc := 69) dX7_lake_69 (by decide) ?_
        refine xg_puti (pc := 70) (h' := hp lk o ((itI q.2.2.2.2.2.1 L t f).2.2) (cpF 65 mf wf) ((qX q ((itI q.2.2.2.2.2.1 L t f).2.1) 0).1, (qX q ((itI q.2.2.2.2.2.1 L t f).2.1) 0).2.1, (qX q ((itI q.2.2.2.2.2.1 L t f).2.1) 0).2.2.1, (qX q ((itI q.2.2.2.2.2.1 L t f).2.1) 0).2.2.2.1, (qX q ((itI q.2.2.2.2.2.1 L t f).2.1) 0).2.2.2.2.1, (qX q ((itI q.2.2.2.2.2.1 L t f).2.1) 0).2.2.2.2.2.1, 0, (qX q ((itI q.2.2.2.2.2.1 L t f).2.1) 0).2.2.2.2.2.2.2.1, (qX q ((itI q.2.2.2.2.2.1 L t f).2.1) 0).2.2.2.2.2.2.2.2.1, (qX q ((itI q.2.2.2.2.2.1 L t f).2.1) 0).2.2.2.2.2.2.2.2.2.1, (qX q ((itI q.2.2.2.2.2.1 L t f).2.1) 0).2.2.2.2.2.2.2.2.2.2.1, (qX q ((itI q.2.2.2.2.2.1 L t f).2.1) 0).2.2.2.2.2.2.2.2.2.2.2.1, (qX q ((itI q.2.2.2.2.2.1 L t f).2.1) 0).2.2.2.2.2.2.2.2.2.2.2.2.1, (qX q ((itI q.2.2.2.2.2.1 L t f).2.1) 0).2.2.2.2.2.2.2.2.2.2.2.2.2.1, (qX q ((itI q.2.2.2.2.2.1 L t f).2.1) 0).2.2.2.2.2.2.2.2.2.2.2.2.2.2)) dX7_lake_70 flX7_169 hp_62 (Nat.le_of_ble_eq_true rfl) hs_td ?_
        refine xg_aload_n (pc := 73) dX7_lake_73 rfl ?_
        refine xg_get (pc := 74) dX7_lake_74 flX7_199 hp_62 rfl ?_
        refine xg_eq (show _ = (0 : Int32) from rfl) ?_
        refine xg_if_ne (pc := 77) (tgt := 82) dX7_lake_77 (by decide) (fun c_77 => absurd c_77 (by decide)) (fun c_77 => ?_)
        refine xg_iload_n (pc := 80) dX7_lake_80 rfl ?_
        exact xg_iret (pc := 81) dX7_lake_81 rfl (rpR (by rw [show rdA q.2.2.2.2.2.1 L (k + 1 + 1) i t f = (nI i, (itI q.2.2.2.2.2.1 L t f).2.2, (itI q.2.2.2.2.2.1 L t f).2.1) from (if_neg h0).trans (if_pos hz)]; simp only [if_neg (nI_pos (n := i) (by omega))]; rfl) eq65.rf)
      · have n22 : ¬ cd q.2.2.2.2.2.1 (itI q.2.2.2.2.2.1 L t f).2.1 = 22 := fun z => hz (cd_22.mp z)
        by_cases h3 : ((itI q.2.2.2.2.2.1 L t f).2.1).1 = 3
        · have c21 : cd q.2.2.2.2.2.1 (itI q.2.2.2.2.2.1 L t f).2.1 = 21 := cd_21.mpr h3
          have hgo := itI_go okp okt h0
          have ht0 := okt.2.2.2.2.2.1 hgo.2
          have hr0 := okr.2.2.2.2.2.1 hz
          have hnx := nx_ok okr
          rw [show rdA q.2.2.2.2.2.1 L (k + 1 + 1) i t f = rdA q.2.2.2.2.2.1 L (k + 1) (i + 1) (nx q.2.2.2.2.2.1 L (itI q.2.2.2.2.2.1 L t f).2.1) (itI q.2.2.2.2.2.1 L t f).2.2 from (if_neg h0).trans ((if_neg hz).trans (if_pos h3))]
          refine xg_aload_n (pc := 24) dX7_lake_24 rfl ?_
          refine xg_bipush (v := 21) (pc := 25) dX7_lake_25 (by decide) ?_
          refine xg_cvI (pc := 27) (h1 := hp lk o ((itI q.2.2.2.2.2.1 L t f).2.2) (cpF 65 mf wf) (qX q (nx q.2.2.2.2.2.1 L (itI q.2.2.2.2.2.1 L t f).2.1) 0)) (x := 1) (M' := mX7_passes) dX7_lake_27 lkX7_206 mcX7_passes hp_62 rfl (ev_paY (w := 21) hL hL2 okr (by decide) c21) rfl rfl (Nat.le_of_ble_eq_true rfl) ?_
          refine xg_if_eq (pc := 30) (tgt := 43) dX7_lake_30 (by decide) (fun c_30 => absurd c_30 (by decide)) (fun c_30 => ?_)
          refine xg_aload_n (pc := 33) dX7_lake_33 rfl ?_
          refine xg_cvV (pc := 34) (h1 := hp lk o ((itI q.2.2.2.2.2.1 L (nx q.2.2.2.2.2.1 L (itI q.2.2.2.2.2.1 L t f).2.1) (itI q.2.2.2.2.2.1 L t f).2.2).2.2) (cpF 65 mf wf) (qX q ((itI q.2.2.2.2.2.1 L (nx q.2.2.2.2.2.1 L (itI q.2.2.2.2.2.1 L t f).2.1) (itI q.2.2.2.2.2.1 L t f).2.2).2.1) (bdO (itI q.2.2.2.2.2.1 L (nx q.2.2.2.2.2.1 L (itI q.2.2.2.2.2.1 L t f).2.1) (itI q.2.2.2.2.2.1 L t f).2.2).1))) (M' := mX7_item) dX7_lake_34 lkX7_224 mcX7_item hp_62 rfl (ev_X7_item hL hL2 hnx.1 iq.2.2.2.1.1.1) rfl rfl (Nat.le_of_ble_eq_true rfl) ?_
          refine xg_iinc (pc := 37) (y := nI (i + 1)) (ls' := [some (.ref 62), some (.int (nI (i + 1)))]) dX7_lake_37 rfl (xinc _) (by decide) rfl ?_
          refine xg_goto (pc := 40) (tgt := 24) dX7_lake_40 (by decide) ?_
          exact ih (i + 1) _ _ (by omega) (by omega) hnx.1 iq.2.2.2.1
        · have n21 : ¬ cd q.2.2.2.2.2.1 (itI q.2.2.2.2.2.1 L t f).2.1 = 21 := fun z => h3 (cd_21.mp z)
          refine xg_aload_n (pc := 24) dX7_lake_24 rfl ?_
          refine xg_bipush (v := 21) (pc := 25) dX7_lake_25 (by decide) ?_
          refine xg_cvI (pc := 27) (h1 := hp lk o ((itI q.2.2.2.2.2.1 L t f).2.2) (cpF 65 mf wf) (qX q ((itI q.2.2.2.2.2.1 L t f).2.1) 0)) (x := 0) (M' := mX7_passes) dX7_lake_27 lkX7_206 mcX7_passes hp_62 rfl (ev_paN (w := 21) (by decide) n21) rfl rfl (Nat.le_of_ble_eq_true rfl) ?_
          refine xg_if_eq (pc := 30) (tgt := 43) dX7_lake_30 (by decide) (fun c_30 => ?_) (fun c_30 => absurd c_30 (by decide))
          refine xg_aload_n (pc := 43) dX7_lake_43 rfl ?_
          refine xg_aload_n (pc := 44) dX7_lake_44 rfl ?_
          refine xg_get (pc := 45) dX7_lake_45 flX7_199 hp_62 rfl ?_
          refine xg_eq (show _ = (0 : Int32) from rfl) ?_
          refine xg_if_ne (pc := 48) (tgt := 60) dX7_lake_48 (by decide) (fun c_48 => absurd c_48 (by decide)) (fun c_48 => ?_)
          refine xg_aload_n (pc := 51) dX7_lake_51 rfl ?_
          refine xg_get (pc := 52) dX7_lake_52 flX7_192 hp_62 rfl ?_
          refine xg_eq (show _ = nI (cd q.2.2.2.2.2.1 ((itI q.2.2.2.2.2.1 L t f).2.1)) from rfl) ?_
          refine xg_bipush (v := 22) (pc := 55) dX7_lake_55 (by decide) ?_
          refine xg_icmp_eq (pc := 57) (tgt := 64) dX7_lake_57 (by decide) (fun c_57 => absurd c_57 (fun z => n22 ((nI_eq (b := 22) (by omega) (by omega)).mp z))) (fun c_57 => ?_)
          refine xg_iconst (v := 1) (pc := 60) dX7_lake_60 (by decide) ?_
          refine xg_goto (pc := 61) (tgt := 65) dX7_lake_61 (by decide) ?_
          refine xg_put (pc := 65) (h' := hp lk o ((itI q.2.2.2.2.2.1 L t f).2.2) (cpF 65 mf wf) (qX q ((itI q.2.2.2.2.2.1 L t f).2.1) 1)) dX7_lake_65 flX7_199 (Or.inl rfl) hp_62 (fun _ => ⟨rfl, rfl⟩) (Nat.le_of_ble_eq_true rfl) hs_bd ?_
          refine xg_aload_n (pc := 68) dX7_lake_68 rfl ?_
          refine xg_iconst (v := 0) (pc := 69) dX7_lake_69 (by decide) ?_
          refine xg_puti (pc := 70) (h' := hp lk o ((itI q.2.2.2.2.2.1 L t f).2.2) (cpF 65 mf wf) ((qX q ((itI q.2.2.2.2.2.1 L t f).2.1) 1).1, (qX q ((itI q.2.2.2.2.2.1 L t f).2.1) 1).2.1, (qX q ((itI q.2.2.2.2.2.1 L t f).2.1) 1).2.2.1, (qX q ((itI q.2.2.2.2.2.1 L t f).2.1) 1).2.2.2.1, (qX q ((itI q.2.2.2.2.2.1 L t f).2.1) 1).2.2.2.2.1, (qX q ((itI q.2.2.2.2.2.1 L t f).2.1) 1).2.2.2.2.2.1, 0, (qX q ((itI q.2.2.2.2.2.1 L t f).2.1) 1).2.2.2.2.2.2.2.1, (qX q ((itI q.2.2.2.2.2.1 L t f).2.1) 1).2.2.2.2.2.2.2.2.1, (qX q ((itI q.2.2.2.2.2.1 L t f).2.1) 1).2.2.2.2.2.2.2.2.2.1, (qX q ((itI q.2.2.2.2.2.1 L t f).2.1) 1).2.2.2.2.2.2.2.2.2.2.1, (qX q ((itI q.2.2.2.2.2.1 L t f).2.1) 1).2.2.2.2.2.2.2.2.2.2.2.1, (qX q ((itI q.2.2.2.2.2.1 L t f).2.1) 1).2.2.2.2.2.2.2.2.2.2.2.2.1, (qX q ((itI q.2.2.2.2.2.1 L t f).2.1) 1).2.2.2.2.2.2.2.2.2.2.2.2.2.1, (qX q ((itI q.2.2.2.2.2.1 L t f).2.1) 1).2.2.2.2.2.2.2.2.2.2.2.2.2.2)) dX7_lake_70 flX7_169 hp_62 (Nat.le_of_ble_eq_true rfl) hs_td ?_
          refine xg_aload_n (pc := 73) dX7_lake_73 rfl ?_
          refine xg_get (pc := 74) dX7_lake_74 flX7_199 hp_62 rfl ?_
          refine xg_eq (show _ = (1 : Int32) from rfl) ?_
          refine xg_if_ne (pc := 77) (tgt := 82) dX7_lake_77 (by decide) (fun c_77 => ?_) (fun c_77 => absurd c_77 (by decide))
          refine xg_aload_n (pc := 82) dX7_lake_82 rfl ?_
          refine xg_cvV (pc := 83) (h1 := hp lk o (cpF 65 (cpF 65 mf wf) ((itI q.2.2.2.2.2.1 L t f).2.2)) (cpF 65 mf wf) ((qX q ((itI q.2.2.2.2.2.1 L t f).2.1) 1).1, (qX q ((itI q.2.2.2.2.2.1 L t f).2.1) 1).2.1, (qX q ((itI q.2.2.2.2.2.1 L t f).2.1) 1).2.2.1, (qX q ((itI q.2.2.2.2.2.1 L t f).2.1) 1).2.2.2.1, (qX q ((itI q.2.2.2.2.2.1 L t f).2.1) 1).2.2.2.2.1, (qX q ((itI q.2.2.2.2.2.1 L t f).2.1) 1).2.2.2.2.2.1, 0, (qX q ((itI q.2.2.2.2.2.1 L t f).2.1) 1).2.2.2.2.2.2.2.1, (qX q ((itI q.2.2.2.2.2.1 L t f).2.1) 1).2.2.2.2.2.2.2.2.1, (qX q ((itI q.2.2.2.2.2.1 L t f).2.1) 1).2.2.2.2.2.2.2.2.2.1, (qX q ((itI q.2.2.2.2.2.1 L t f).2.1) 1).2.2.2.2.2.2.2.2.2.2.1, (qX q ((itI q.2.2.2.2.2.1 L t f).2.1) 1).2.2.2.2.2.2.2.2.2.2.2.1, (qX q ((itI q.2.2.2.2.2.1 L t f).2.1) 1).2.2.2.2.2.2.2.2.2.2.2.2.1, (qX q ((itI q.2.2.2.2.2.1 L t f).2.1) 1).2.2.2.2.2.2.2.2.2.2.2.2.2.1, (qX q ((itI q.2.2.2.2.2.1 L t f).2.1) 1).2.2.2.2.2.2.2.2.2.2.2.2.2.2)) (M' := mX7_putsBack) dX7_lake_83 lkX7_150 mcX7_putsBack hp_62 rfl (ev_X7_putsBack) rfl rfl (Nat.le_of_ble_eq_true rfl) ?_
          refine xg_iconst (v := -1) (pc := 86) dX7_lake_86 (by decide) ?_
          refine xg_aload_n (pc := 87) dX7_lake_87 rfl ?_
          refine xg_get (pc := 88) dX7_lake_88 flX7_176 hp_62 rfl ?_
          refine xg_eq (show _ = nI ((itI q.2.2.2.2.2.1 L t f).2.1).2.1 from rfl) ?_
          refine xg_isub (pc := 91) dX7_lake_91 ?_
          exact xg_iret (pc := 92) dX7_lake_92 rfl (rpR (by rw [show rdA q.2.2.2.2.2.1 L (k + 1 + 1) i t f = (-1 - nI ((itI q.2.2.2.2.2.1 L t f).2.1).2.1, (itI q.2.2.2.2.2.1 L t f).2.2, (itI q.2.2.2.2.2.1 L t f).2.1) from (if_neg h0).trans ((if_neg hz).trans (if_neg h3))]; simp only [if_pos (neg_b hbg)]; rfl) eq65_cp)
set_option maxRecDepth 100000 in
set_option maxHeartbeats 4000000 in
theorem ev_X7_lake  (hL : q.2.2.2.2.2.2.1 = nI L) (hL2 : L ≤ 120) (okp : okP mf) : xEv X false (d + 7) 0 0 mX7_lake [.ref 62] (hp lk o mf wf q) (RP lk o (r_lake q L mf)) := by
  have tok0 := tok_ok (b := q.2.2.2.2.2.1) (L := L) (a := 0) (Nat.zero_le _)
  refine xEv.of (ls := [some (.ref 62), none]) mcX7_lake.1.2.2.2.2 (Nat.le_of_ble_eq_true rfl) rfl ?_
  refine xg_aload_n (pc := 0) dX7_lake_0 rfl ?_
  refine xg_cvV (pc := 1) (h1 := hp lk o mf (cpF 65 mf wf) q) (M' := mX7_thinks) dX7_lake_1 lkX7_147 mcX7_thinks hp_62 rfl (ev_X7_thinks) rfl rfl (Nat.le_of_ble_eq_true rfl) ?_
  refine xg_aload_n (pc := 4) dX7_lake_4 rfl ?_
  refine xg_iconst (v := 0) (pc := 5) dX7_lake_5 (by decide) ?_
  refine xg_puti (pc := 6) (h' := hp lk o mf (cpF 65 mf wf) (q.1, q.2.1, q.2.2.1, q.2.2.2.1, q.2.2.2.2.1, q.2.2.2.2.2.1, q.2.2.2.2.2.2.1, q.2.2.2.2.2.2.2.1, q.2.2.2.2.2.2.2.2.1, 0, q.2.2.2.2.2.2.2.2.2.2.1, q.2.2.2.2.2.2.2.2.2.2.2.1, q.2.2.2.2.2.2.2.2.2.2.2.2.1, q.2.2.2.2.2.2.2.2.2.2.2.2.2.1, q.2.2.2.2.2.2.2.2.2.2.2.2.2.2)) dX7_lake_6 flX7_179 hp_62 (Nat.le_of_ble_eq_true rfl) hs_pt ?_
  refine xg_aload_n (pc := 9) dX7_lake_9 rfl ?_
  refine xg_iconst (v := 0) (pc := 10) dX7_lake_10 (by decide) ?_
  refine xg_put (pc := 11) (h' := hp lk o mf (cpF 65 mf wf) (q.1, q.2.1, q.2.2.1, q.2.2.2.1, q.2.2.2.2.1, q.2.2.2.2.2.1, q.2.2.2.2.2.2.1, q.2.2.2.2.2.2.2.1, q.2.2.2.2.2.2.2.2.1, 0, q.2.2.2.2.2.2.2.2.2.2.1, 0, q.2.2.2.2.2.2.2.2.2.2.2.2.1, q.2.2.2.2.2.2.2.2.2.2.2.2.2.1, q.2.2.2.2.2.2.2.2.2.2.2.2.2.2)) dX7_lake_11 flX7_199 (Or.inl rfl) hp_62 (fun _ => ⟨rfl, rfl⟩) (Nat.le_of_ble_eq_true rfl) hs_bd ?_
  refine xg_aload_n (pc := 14) dX7_lake_14 rfl ?_
  refine xg_cvV (pc := 15) (h1 := hp lk o mf (cpF 65 mf wf) (qX q (tok q.2.2.2.2.2.1 L 0) 0)) (M' := mX7_reads) dX7_lake_15 lkX7_203 mcX7_reads hp_62 rfl (ev_X7_reads (q1 := (q.1, q.2.1, q.2.2.1, q.2.2.2.1, q.2.2.2.2.1, q.2.2.2.2.2.1, q.2.2.2.2.2.2.1, q.2.2.2.2.2.2.2.1, q.2.2.2.2.2.2.2.2.1, 0, q.2.2.2.2.2.2.2.2.2.2.1, 0, q.2.2.2.2.2.2.2.2.2.2.2.2.1, q.2.2.2.2.2.2.2.2.2.2.2.2.2.1, q.2.2.2.2.2.2.2.2.2.2.2.2.2.2)) (a := 0) hL2 hL (Nat.zero_le _) rfl) rfl rfl (Nat.le_of_ble_eq_true rfl) ?_
  refine xg_aload_n (pc := 18) dX7_lake_18 rfl ?_
  refine xg_cvV (pc := 19) (h1 := hp lk o ((itI q.2.2.2.2.2.1 L (tok q.2.2.2.2.2.1 L 0) mf).2.2) (cpF 65 mf wf) (qX q ((itI q.2.2.2.2.2.1 L (tok q.2.2.2.2.2.1 L 0) mf).2.1) (bdO (itI q.2.2.2.2.2.1 L (tok q.2.2.2.2.2.1 L 0) mf).1))) (M' := mX7_item) dX7_lake_19 lkX7_224 mcX7_item hp_62 rfl (ev_X7_item hL hL2 tok0.1 okp.1.1) rfl rfl (Nat.le_of_ble_eq_true rfl) ?_
  refine xg_iconst (v := 1) (pc := 22) dX7_lake_22 (by decide) ?_
  refine xg_istore_n (pc := 23) (ls' := [some (.ref 62), some (.int 1)]) dX7_lake_23 (by decide) rfl ?_
  exact lp_lake hL hL2 119 1 _ _ rfl (by omega) tok0.1 okp
end
