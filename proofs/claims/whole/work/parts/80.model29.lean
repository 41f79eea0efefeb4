/-! the reference reads a command -/
def rdS (T : Nat → Int32) (N : Nat) : List Int32 → Nat × Int32 × List Int32 → Nat × Int32 × List Int32
  | [], s => s
  | c :: cs, s => rdS T N cs (if c = 68 then (rdP T N s.1 48 57 s.2.1, rdW T N s.1 48 57 s.2.1, s.2.2 ++ [rdV T N s.1 48 57 s.2.1]) else if c = 78 then (nbP T N s.1 s.2.1, nbW T N s.1 s.2.1, s.2.2 ++ [nbV T N s.1 s.2.1]) else if c = 84 then (dgP T N s.1 s.2.1, dgW T N s.1 s.2.1, s.2.2 ++ [dgV T N s.1 s.2.1]) else (rdP T N s.1 c c s.2.1, rdW T N s.1 c c s.2.1, s.2.2))
theorem rdS_D (T : Nat → Int32) (N : Nat) (cs : List Int32) (p : Nat) (w : Int32) (l : List Int32) : rdS T N (68 :: cs) (p, w, l) = rdS T N cs (rdP T N p 48 57 w, rdW T N p 48 57 w, l ++ [rdV T N p 48 57 w]) := by
  show rdS T N cs (if (68 : Int32) = 68 then _ else _) = _
  rw [if_pos rfl]
theorem rdS_N (T : Nat → Int32) (N : Nat) (cs : List Int32) (p : Nat) (w : Int32) (l : List Int32) : rdS T N (78 :: cs) (p, w, l) = rdS T N cs (nbP T N p w, nbW T N p w, l ++ [nbV T N p w]) := by
  show rdS T N cs (if (78 : Int32) = 68 then _ else if (78 : Int32) = 78 then _ else _) = _
  rw [if_neg (by decide), if_pos rfl]
theorem rdS_T (T : Nat → Int32) (N : Nat) (cs : List Int32) (p : Nat) (w : Int32) (l : List Int32) : rdS T N (84 :: cs) (p, w, l) = rdS T N cs (dgP T N p w, dgW T N p w, l ++ [dgV T N p w]) := by
  show rdS T N cs (if (84 : Int32) = 68 then _ else if (84 : Int32) = 78 then _ else if (84 : Int32) = 84 then _ else _) = _
  rw [if_neg (by decide), if_neg (by decide), if_pos rfl]
theorem rdS_c (T : Nat → Int32) (N : Nat) (cs : List Int32) (p : Nat) (w : Int32) (l : List Int32) {c : Int32} (h1 : c ≠ 68) (h2 : c ≠ 78) (h3 : c ≠ 84) : rdS T N (c :: cs) (p, w, l) = rdS T N cs (rdP T N p c c w, rdW T N p c c w, l) := by
  show rdS T N cs (if c = 68 then _ else if c = 78 then _ else if c = 84 then _ else _) = _
  rw [if_neg h1, if_neg h2, if_neg h3]
def prt (k : Nat) : List Int32 := match k with
  | 0 => [78]
  | 1 => [68, 32, 78, 32, 84]
  | 2 => [84]
  | 3 => [78]
  | 4 => [78, 45, 78]
  | 5 => [68]
  | _ => [68, 68]
/-- what the reading of the t-th command has left: only the places of the reading and the row of numbers -/
def RQ (m m1 : Mem) (t : Nat) (l : List Int32) : Prop := m1.2 = m.2 ∧ (∀ y, y ≠ 363 → y ≠ 372 → m1.1 y = m.1 y) ∧ (∀ f, f ≠ 17 → f ≠ 18 → f ≠ 19 → m1.1 363 f = m.1 363 f) ∧ m1.1 363 19 = nI (t + 1) ∧ (∀ y, y < 4 * t → m1.1 372 y = m.1 372 y) ∧ ∀ j, j < l.length → m1.1 372 (4 * t + j) = l.getD j 0
theorem RQ.start (m : Mem) (t : Nat) (v : Int32) : RQ m (up (up m 372 (4 * t) v) 363 19 (nI (t + 1))) t [v] := by
  refine ⟨rfl, fun y h1 h2 => ?_, fun f _ _ h => ?_, up_same _ _ _ _, fun y hy => ?_, fun j hj => ?_⟩
  · rw [up_cell _ _ _ h1, up_cell _ _ _ h2]
  · rw [up_slot _ _ _ h, up_cell _ _ _ (by decide)]
  · rw [up_cell _ _ _ (by decide), up_slot _ _ _ (by omega)]
  · have : j = 0 := by have : j < 1 := hj; omega
    subst this
    rw [up_cell _ _ _ (by decide), Nat.add_zero, up_same]
    rfl
theorem RQ.put {m m1 : Mem} {t : Nat} {l : List Int32} (h : RQ m m1 t l) (v : Int32) {j : Nat} (hj : j = 4 * t + l.length) : RQ m (up m1 372 j v) t (l ++ [v]) := by
  obtain ⟨h1, h2, h3, h4, h5, h6⟩ := h
  refine ⟨h1, fun y a b => ?_, fun f a b c => ?_, ?_, fun y hy => ?_, fun x hx => ?_⟩
  · rw [up_cell _ _ _ b]; exact h2 y a b
  · rw [up_cell _ _ _ (by decide)]; exact h3 f a b c
  · rw [up_cell _ _ _ (by decide)]; exact h4
  · rw [up_slot _ _ _ (by omega)]; exact h5 y hy
  · by_cases e : x = l.length
    · rw [e, ← hj, up_same, getD_app_eq]
    · have hx2 : x < l.length := by rw [List.length_append] at hx; have : [v].length = 1 := rfl; omega
      rw [up_slot _ _ _ (by omega), getD_app_lt hx2]
      exact h6 x hx2
theorem khS_found {T : Nat → Int32} {N p : Nat} : ∀ w, w ≤ 7 → ((khS T N p w).2 = -1 ∧ ∀ k, k < w → ¬ mtC T N p (stO k) (wlO k) 0 = wlO k) ∨ ∃ k, k < w ∧ (khS T N p w).2 = nI k ∧ mtC T N p (stO k) (wlO k) 0 = wlO k
  | 0, _ => Or.inl ⟨rfl, fun k h => absurd h (by omega)⟩
  | w + 1, hw => by
    show ((if (khS T N p w).2 = -1 then (max (khS T N p w).1 (p + mtC T N p (stO w) (wlO w) 0), if mtC T N p (stO w) (wlO w) 0 = wlO w then nI w else -1) else khS T N p w).2 = -1 ∧ _) ∨ ∃ k, k < w + 1 ∧ (if (khS T N p w).2 = -1 then (max (khS T N p w).1 (p + mtC T N p (stO w) (wlO w) 0), if mtC T N p (stO w) (wlO w) 0 = wlO w then nI w else -1) else khS T N p w).2 = nI k ∧ _
    rcases khS_found (T := T) (N := N) (p := p) w (by omega) with ⟨h1, h2⟩ | ⟨k, hk, e, h⟩
    · rw [if_pos h1]
      by_cases c : mtC T N p (stO w) (wlO w) 0 = wlO w
      · exact Or.inr ⟨w, by omega, if_pos c, c⟩
      · refine Or.inl ⟨if_neg c, fun k hk => ?_⟩
        by_cases e : k = w
        · rw [e]; exact c
        · exact h2 k (by omega)
    · rw [if_neg (by rw [e]; exact nIk_ne (by omega))]
      exact Or.inr ⟨k, by omega, e, h⟩

theorem mul4 (t : Nat) : (4 : Int32) * nI t = nI (4 * t) := by rw [show (4 : Int32) = nI 4 from rfl]; exact nI_mulN 4 t

set_option maxRecDepth 100000 in
set_option maxHeartbeats 1000000 in
theorem c_X10_readsCommand {g : xG} (hG : GK g) {z : xE} (hE : GE g z) {m : Mem} {N p t : Nat} (h16 : m.1 363 16 = nI N) (hN : N ≤ 60) (hpN : p ≤ N) (h19 : m.1 363 19 = nI t) (ht : t < 30) : CC g yX10_readsCommand (.code yX10_readsCommand cX10_readsCommand 4 none) 7 0 0 [.ref (ad g 363)] (rdM m p (-1)) (rV (fun m2 => ((khS (m.1 370) N p 7).2 = -1 ∧ ∃ m1, m2 = rdM m1 p (nI (khS (m.1 370) N p 7).1) ∧ RQ m m1 t [-1]) ∨ ∃ k, k < 7 ∧ (khS (m.1 370) N p 7).2 = nI k ∧ mtC (m.1 370) N p (stO k) (wlO k) 0 = wlO k ∧ ∃ m1, m2 = rdM m1 (rdS (m.1 370) N (prt k) (p + wlO k, -1, [])).1 (rdS (m.1 370) N (prt k) (p + wlO k, -1, [])).2.1 ∧ RQ m m1 t (nI k :: (rdS (m.1 370) N (prt k) (p + wlO k, -1, [])).2.2))) noX := by
  refine CC.mk hG RX10 rfl (by decide +kernel) rfl (Nat.le_of_ble_eq_true rfl) (fun sz B hB hX => ?_)
  show V g B 0 0 _ (hp g (rdM m p (-1))) sz 0 [some (.ref (ad g 363)), none, none, none] []
  have kd0 : ∀ (m1 : Mem) (T : Nat → Int32) (p1 : Nat), (khS (m.1 370) N p 7).2 = nI 0 → mtC (m.1 370) N p (stO 0) (wlO 0) 0 = wlO 0 → T = m.1 370 → p1 = p + wlO 0 → p1 ≤ N → m1.1 370 = T → RQ m m1 t [nI 0] → ∀ (sz : Nat), V g B 0 0 (QM g B 0 0 (rV (fun m2 => ((khS (m.1 370) N p 7).2 = -1 ∧ ∃ m1, m2 = rdM m1 p (nI (khS (m.1 370) N p 7).1) ∧ RQ m m1 t [-1]) ∨ ∃ k, k < 7 ∧ (khS (m.1 370) N p 7).2 = nI k ∧ mtC (m.1 370) N p (stO k) (wlO k) 0 = wlO k ∧ ∃ m1, m2 = rdM m1 (rdS (m.1 370) N (prt k) (p + wlO k, -1, [])).1 (rdS (m.1 370) N (prt k) (p + wlO k, -1, [])).2.1 ∧ RQ m m1 t (nI k :: (rdS (m.1 370) N (prt k) (p + wlO k, -1, [])).2.2))) noX) (hp g (rdM m1 p1 (-1))) sz 38 [some (.ref (ad g 363)), some (.int (nI (4 * t))), some (.int (nI 0)), none] [] := by
    intro m1 T p1 hks hmt hTm hpe hp1 hT hq0 sz
    have hT_0 := hT
    have h16_0 : m1.1 363 16 = nI N := (hq0.2.2.1 16 (by decide) (by decide) (by decide)).trans h16
    have hT := hTm.symm
    refine V.iload_n (pc := 38) hB dX10_readsCommand_38 rfl ?_
    refine V.iconst (pc := 39) (v := 1) hB dX10_readsCommand_39 rfl ?_
    refine V.icmp_eq (pc := 40) (tgt := 54) hB dX10_readsCommand_40 (by decide) (fun c_40 => ?_) (fun c_40 => ?_)
    · exact absurd c_40 (by decide)
    · refine V.iload_n (pc := 43) hB dX10_readsCommand_43 rfl ?_
      refine V.iconst (pc := 44) (v := 5) hB dX10_readsCommand_44 rfl ?_
      refine V.icmp_eq (pc := 45) (tgt := 54) hB dX10_readsCommand_45 (by decide) (fun c_45 => ?_) (fun c_45 => ?_)
      · exact absurd c_45 (by decide)
      · refine V.iload_n (pc := 48) hB dX10_readsCommand_48 rfl ?_
        refine V.bipush (pc := 49) (v := 6) hB dX10_readsCommand_49 rfl ?_
        refine V.icmp_ne (pc := 51) (tgt := 58) hB dX10_readsCommand_51 (by decide) (fun c_51 => ?_) (fun c_51 => ?_)
        · refine V.iconst (pc := 58) (v := 0) hB dX10_readsCommand_58 rfl ?_
          refine V.istore_n (pc := 59) hB dX10_readsCommand_59 (by decide) rfl ?_
          refine V.aload_n (pc := 60) hB dX10_readsCommand_60 rfl ?_
          refine V.get (pc := 61) hB fk_Model 20 wf_X10_41 dX10_readsCommand_61 (by decide) (hp_at (ca_Model _)) rfl ?_
          refine V.iload_n (pc := 64) hB dX10_readsCommand_64 rfl ?_
          refine V.iconst (pc := 65) (v := 1) hB dX10_readsCommand_65 rfl ?_
          refine V.iadd (pc := 66) hB dX10_readsCommand_66 ?_
          rw [show nI (4 * t) + 1 = nI (4 * t + 1) from nI_1 _]
          refine V.iload_n (pc := 67) hB dX10_readsCommand_67 rfl ?_
          refine V.if_eq (pc := 68) (tgt := 78) hB dX10_readsCommand_68 (by decide) (fun c_68 => ?_) (fun c_68 => ?_)
          · refine V.iload_n (pc := 78) hB dX10_readsCommand_78 rfl ?_
            refine V.iconst (pc := 79) (v := 2) hB dX10_readsCommand_79 rfl ?_
            refine V.icmp_ne (pc := 80) (tgt := 90) hB dX10_readsCommand_80 (by decide) (fun c_80 => ?_) (fun c_80 => ?_)
            · refine V.aload_n (pc := 90) hB dX10_readsCommand_90 rfl ?_
              refine V.cv (pc := 91) hB cw_X10_number wm_X10_209 wi_X10_number ws_X10_number dX10_readsCommand_91 (c_X10_number hG (m := m1) (p := p1) (w := (-1)) h16_0 hN (Nat.le_trans hp1 hN)) (hp_at (ca_Model _)) fk_Model rfl (by omega) (by decide) rfl (by exact Nat.le_of_ble_eq_true rfl) (by omega) (by omega) kN (kI (fun v_91 m_91 sz h_91 => ?_)) rfl
              rw [hT_0] at h_91
              obtain ⟨rfl, hm_91⟩ := h_91
              subst hm_91
              refine V.iastM (pc := 94) hB (ca_Nums) dX10_readsCommand_94 (ix_nI (by omega) (by decide)) (by decide) ?_
              rw [rdM_num _ _ _ _ (show 372 ≠ 363 by decide)]
              have hq1 := hq0.put (nbV T N p1 (-1)) (j := 4 * t + 1) rfl
              obtain ⟨m1_1, e1⟩ : ∃ z, z = up m1 372 (4 * t + 1) (nbV T N p1 (-1)) := ⟨_, rfl⟩
              rw [← e1] at hq1 ⊢
              have h16_1 := hq1.2.2.1 16 (by decide) (by decide) (by decide)
              rw [h16] at h16_1
              have hT_1 := (hq1.2.1 370 (by decide) (by decide)).trans hT
              refine V.iload_n (pc := 95) hB dX10_readsCommand_95 rfl ?_
              refine V.iconst (pc := 96) (v := 1) hB dX10_readsCommand_96 rfl ?_
              refine V.icmp_ne (pc := 97) (tgt := 136) hB dX10_readsCommand_97 (by decide) (fun c_97 => ?_) (fun c_97 => ?_)
              · refine V.iload_n (pc := 136) hB dX10_readsCommand_136 rfl ?_
                refine V.iconst (pc := 137) (v := 4) hB dX10_readsCommand_137 rfl ?_
                refine V.icmp_ne (pc := 138) (tgt := 159) hB dX10_readsCommand_138 (by decide) (fun c_138 => ?_) (fun c_138 => ?_)
                · refine V.iload_n (pc := 159) hB dX10_readsCommand_159 rfl ?_
                  refine V.bipush (pc := 160) (v := 6) hB dX10_readsCommand_160 rfl ?_
                  refine V.icmp_ne (pc := 162) (tgt := 177) hB dX10_readsCommand_162 (by decide) (fun c_162 => ?_) (fun c_162 => ?_)
                  · refine V.retV (pc := 177) hB dX10_readsCommand_177 rfl (by omega) (by omega) ?_
                    have hr : rdS T N (prt 0) (p1, -1, []) = ((nbP T N p1 (-1)), (nbW T N p1 (-1)), [] ++ [(nbV T N p1 (-1))]) := by
                      show rdS T N [78] (p1, -1, []) = _
                      rw [rdS_N]
                      rfl
                    refine Or.inr ⟨0, by decide, hks, hmt, m1_1, ?_, ?_⟩
                    · rw [← hTm, ← hpe, hr]
                    · rw [← hTm, ← hpe, hr]
                      exact hq1
                  · exact absurd c_162 (by decide)
                · exact absurd c_138 (by decide)
              · exact absurd c_97 (by decide)
            · exact absurd c_80 (by decide)
          · exact (c_68 rfl).elim
        · exact absurd c_51 (by decide)
  have kd1 : ∀ (m1 : Mem) (T : Nat → Int32) (p1 : Nat), (khS (m.1 370) N p 7).2 = nI 1 → mtC (m.1 370) N p (stO 1) (wlO 1) 0 = wlO 1 → T = m.1 370 → p1 = p + wlO 1 → p1 ≤ N → m1.1 370 = T → RQ m m1 t [nI 1] → ∀ (sz : Nat), V g B 0 0 (QM g B 0 0 (rV (fun m2 => ((khS (m.1 370) N p 7).2 = -1 ∧ ∃ m1, m2 = rdM m1 p (nI (khS (m.1 370) N p 7).1) ∧ RQ m m1 t [-1]) ∨ ∃ k, k < 7 ∧ (khS (m.1 370) N p 7).2 = nI k ∧ mtC (m.1 370) N p (stO k) (wlO k) 0 = wlO k ∧ ∃ m1, m2 = rdM m1 (rdS (m.1 370) N (prt k) (p + wlO k, -1, [])).1 (rdS (m.1 370) N (prt k) (p + wlO k, -1, [])).2.1 ∧ RQ m m1 t (nI k :: (rdS (m.1 370) N (prt k) (p + wlO k, -1, [])).2.2))) noX) (hp g (rdM m1 p1 (-1))) sz 38 [some (.ref (ad g 363)), some (.int (nI (4 * t))), some (.int (nI 1)), none] [] := by
    intro m1 T p1 hks hmt hTm hpe hp1 hT hq0 sz
    have hT_0 := hT
    have h16_0 : m1.1 363 16 = nI N := (hq0.2.2.1 16 (by decide) (by decide) (by decide)).trans h16
    have hT := hTm.symm
    refine V.iload_n (pc := 38) hB dX10_readsCommand_38 rfl ?_
    refine V.iconst (pc := 39) (v := 1) hB dX10_readsCommand_39 rfl ?_
    refine V.icmp_eq (pc := 40) (tgt := 54) hB dX10_readsCommand_40 (by decide) (fun c_40 => ?_) (fun c_40 => ?_)
    · refine V.iconst (pc := 54) (v := 1) hB dX10_readsCommand_54 rfl ?_
      refine V.goto (pc := 55) (tgt := 59) hB dX10_readsCommand_55 (by decide) ?_
      refine V.istore_n (pc := 59) hB dX10_readsCommand_59 (by decide) rfl ?_
      refine V.aload_n (pc := 60) hB dX10_readsCommand_60 rfl ?_
      refine V.get (pc := 61) hB fk_Model 20 wf_X10_41 dX10_readsCommand_61 (by decide) (hp_at (ca_Model _)) rfl ?_
      refine V.iload_n (pc := 64) hB dX10_readsCommand_64 rfl ?_
      refine V.iconst (pc := 65) (v := 1) hB dX10_readsCommand_65 rfl ?_
      refine V.iadd (pc := 66) hB dX10_readsCommand_66 ?_
      rw [show nI (4 * t) + 1 = nI (4 * t + 1) from nI_1 _]
      refine V.iload_n (pc := 67) hB dX10_readsCommand_67 rfl ?_
      refine V.if_eq (pc := 68) (tgt := 78) hB dX10_readsCommand_68 (by decide) (fun c_68 => ?_) (fun c_68 => ?_)
      · exact absurd c_68 (by decide)
      · refine V.aload_n (pc := 71) hB dX10_readsCommand_71 rfl ?_
        refine V.cv (pc := 72) hB cw_X10_digit wm_X10_206 wi_X10_digit ws_X10_digit dX10_readsCommand_72 (c_X10_digit hG (m := m1) (p := p1) (w := (-1)) h16_0 hN (Nat.le_trans hp1 hN)) (hp_at (ca_Model _)) fk_Model rfl (by omega) (by decide) rfl (by exact Nat.le_of_ble_eq_true rfl) (by omega) (by omega) kN (kI (fun v_72 m_72 sz h_72 => ?_)) rfl
        rw [hT_0] at h_72
        obtain ⟨rfl, hm_72⟩ := h_72
        subst hm_72
        refine V.goto (pc := 75) (tgt := 94) hB dX10_readsCommand_75 (by decide) ?_
        refine V.iastM (pc := 94) hB (ca_Nums) dX10_readsCommand_94 (ix_nI (by omega) (by decide)) (by decide) ?_
        rw [rdM_num _ _ _ _ (show 372 ≠ 363 by decide)]
        have hq1 := hq0.put (rdV T N p1 48 57 (-1)) (j := 4 * t + 1) rfl
        obtain ⟨m1_1, e1⟩ : ∃ z, z = up m1 372 (4 * t + 1) (rdV T N p1 48 57 (-1)) := ⟨_, rfl⟩
        rw [← e1] at hq1 ⊢
        have h16_1 := hq1.2.2.1 16 (by decide) (by decide) (by decide)
        rw [h16] at h16_1
        have hT_1 := (hq1.2.1 370 (by decide) (by decide)).trans hT
        refine V.iload_n (pc := 95) hB dX10_readsCommand_95 rfl ?_
        refine V.iconst (pc := 96) (v := 1) hB dX10_readsCommand_96 rfl ?_
        refine V.icmp_ne (pc := 97) (tgt := 136) hB dX10_readsCommand_97 (by decide) (fun c_97 => ?_) (fun c_97 => ?_)
        · exact (c_97 (by decide)).elim
        · refine V.aload_n (pc := 100) hB dX10_readsCommand_100 rfl ?_
          refine V.bipush (pc := 101) (v := 32) hB dX10_readsCommand_101 rfl ?_
          refine V.cv (pc := 103) hB cw_X10_sign wm_X10_232 wi_X10_sign ws_X10_sign dX10_readsCommand_103 (c_X10_sign hG (m := m1_1) (p := (rdP T N p1 48 57 (-1))) (w := (rdW T N p1 48 57 (-1))) h16_1 hN (Nat.le_trans (rdP_N hp1) hN) (c := 32) (by decide)) (hp_at (ca_Model _)) fk_Model rfl (by omega) (by decide) rfl (by exact Nat.le_of_ble_eq_true rfl) (by omega) (by omega) kN (kV (fun m_103 sz h_103 => ?_)) rfl
          rw [hT_1] at h_103
          subst h_103
          refine V.aload_n (pc := 106) hB dX10_readsCommand_106 rfl ?_
          refine V.get (pc := 107) hB fk_Model 20 wf_X10_41 dX10_readsCommand_107 (by decide) (hp_at (ca_Model _)) rfl ?_
          refine V.iload_n (pc := 110) hB dX10_readsCommand_110 rfl ?_
          refine V.iconst (pc := 111) (v := 2) hB dX10_readsCommand_111 rfl ?_
          refine V.iadd (pc := 112) hB dX10_readsCommand_112 ?_
          rw [show nI (4 * t) + 2 = nI (4 * t + 2) from nI_add _ 2]
          refine V.aload_n (pc := 113) hB dX10_readsCommand_113 rfl ?_
          refine V.cv (pc := 114) hB cw_X10_number wm_X10_209 wi_X10_number ws_X10_number dX10_readsCommand_114 (c_X10_number hG (m := m1_1) (p := (rdP T N (rdP T N p1 48 57 (-1)) 32 32 (rdW T N p1 48 57 (-1)))) (w := (rdW T N (rdP T N p1 48 57 (-1)) 32 32 (rdW T N p1 48 57 (-1)))) h16_1 hN (Nat.le_trans (rdP_N (rdP_N hp1)) hN)) (hp_at (ca_Model _)) fk_Model rfl (by omega) (by decide) rfl (by exact Nat.le_of_ble_eq_true rfl) (by omega) (by omega) kN (kI (fun v_114 m_114 sz h_114 => ?_)) rfl
          rw [hT_1] at h_114
          obtain ⟨rfl, hm_114⟩ := h_114
          subst hm_114
          refine V.iastM (pc := 117) hB (ca_Nums) dX10_readsCommand_117 (ix_nI (by omega) (by decide)) (by decide) ?_
          rw [rdM_num _ _ _ _ (show 372 ≠ 363 by decide)]
          have hq2 := hq1.put (nbV T N (rdP T N (rdP T N p1 48 57 (-1)) 32 32 (rdW T N p1 48 57 (-1))) (rdW T N (rdP T N p1 48 57 (-1)) 32 32 (rdW T N p1 48 57 (-1)))) (j := 4 * t + 2) rfl
          obtain ⟨m1_2, e2⟩ : ∃ z, z = up m1_1 372 (4 * t + 2) (nbV T N (rdP T N (rdP T N p1 48 57 (-1)) 32 32 (rdW T N p1 48 57 (-1))) (rdW T N (rdP T N p1 48 57 (-1)) 32 32 (rdW T N p1 48 57 (-1)))) := ⟨_, rfl⟩
          rw [← e2] at hq2 ⊢
          have h16_2 := hq2.2.2.1 16 (by decide) (by decide) (by decide)
          rw [h16] at h16_2
          have hT_2 := (hq2.2.1 370 (by decide) (by decide)).trans hT
          refine V.aload_n (pc := 118) hB dX10_readsCommand_118 rfl ?_
          refine V.bipush (pc := 119) (v := 32) hB dX10_readsCommand_119 rfl ?_
          refine V.cv (pc := 121) hB cw_X10_sign wm_X10_232 wi_X10_sign ws_X10_sign dX10_readsCommand_121 (c_X10_sign hG (m := m1_2) (p := (nbP T N (rdP T N (rdP T N p1 48 57 (-1)) 32 32 (rdW T N p1 48 57 (-1))) (rdW T N (rdP T N p1 48 57 (-1)) 32 32 (rdW T N p1 48 57 (-1))))) (w := (nbW T N (rdP T N (rdP T N p1 48 57 (-1)) 32 32 (rdW T N p1 48 57 (-1))) (rdW T N (rdP T N p1 48 57 (-1)) 32 32 (rdW T N p1 48 57 (-1))))) h16_2 hN (Nat.le_trans (nbP_N (rdP_N (rdP_N hp1))) hN) (c := 32) (by decide)) (hp_at (ca_Model _)) fk_Model rfl (by omega) (by decide) rfl (by exact Nat.le_of_ble_eq_true rfl) (by omega) (by omega) kN (kV (fun m_121 sz h_121 => ?_)) rfl
          rw [hT_2] at h_121
          subst h_121
          refine V.aload_n (pc := 124) hB dX10_readsCommand_124 rfl ?_
          refine V.get (pc := 125) hB fk_Model 20 wf_X10_41 dX10_readsCommand_125 (by decide) (hp_at (ca_Model _)) rfl ?_
          refine V.iload_n (pc := 128) hB dX10_readsCommand_128 rfl ?_
          refine V.iconst (pc := 129) (v := 3) hB dX10_readsCommand_129 rfl ?_
          refine V.iadd (pc := 130) hB dX10_readsCommand_130 ?_
          rw [show nI (4 * t) + 3 = nI (4 * t + 3) from nI_add _ 3]
          refine V.aload_n (pc := 131) hB dX10_readsCommand_131 rfl ?_
          refine V.cv (pc := 132) hB cw_X10_degrees wm_X10_229 wi_X10_degrees ws_X10_degrees dX10_readsCommand_132 (c_X10_degrees hG (m := m1_2) (p := (rdP T N (nbP T N (rdP T N (rdP T N p1 48 57 (-1)) 32 32 (rdW T N p1 48 57 (-1))) (rdW T N (rdP T N p1 48 57 (-1)) 32 32 (rdW T N p1 48 57 (-1)))) 32 32 (nbW T N (rdP T N (rdP T N p1 48 57 (-1)) 32 32 (rdW T N p1 48 57 (-1))) (rdW T N (rdP T N p1 48 57 (-1)) 32 32 (rdW T N p1 48 57 (-1)))))) (w := (rdW T N (nbP T N (rdP T N (rdP T N p1 48 57 (-1)) 32 32 (rdW T N p1 48 57 (-1))) (rdW T N (rdP T N p1 48 57 (-1)) 32 32 (rdW T N p1 48 57 (-1)))) 32 32 (nbW T N (rdP T N (rdP T N p1 48 57 (-1)) 32 32 (rdW T N p1 48 57 (-1))) (rdW T N (rdP T N p1 48 57 (-1)) 32 32 (rdW T N p1 48 57 (-1)))))) h16_2 hN (Nat.le_trans (rdP_N (nbP_N (rdP_N (rdP_N hp1)))) hN)) (hp_at (ca_Model _)) fk_Model rfl (by omega) (by decide) rfl (by exact Nat.le_of_ble_eq_true rfl) (by omega) (by omega) kN (kI (fun v_132 m_132 sz h_132 => ?_)) rfl
          rw [hT_2] at h_132
          obtain ⟨rfl, hm_132⟩ := h_132
          subst hm_132
          refine V.iastM (pc := 135) hB (ca_Nums) dX10_readsCommand_135 (ix_nI (by omega) (by decide)) (by decide) ?_
          rw [rdM_num _ _ _ _ (show 372 ≠ 363 by decide)]
          have hq3 := hq2.put (dgV T N (rdP T N (nbP T N (rdP T N (rdP T N p1 48 57 (-1)) 32 32 (rdW T N p1 48 57 (-1))) (rdW T N (rdP T N p1 48 57 (-1)) 32 32 (rdW T N p1 48 57 (-1)))) 32 32 (nbW T N (rdP T N (rdP T N p1 48 57 (-1)) 32 32 (rdW T N p1 48 57 (-1))) (rdW T N (rdP T N p1 48 57 (-1)) 32 32 (rdW T N p1 48 57 (-1))))) (rdW T N (nbP T N (rdP T N (rdP T N p1 48 57 (-1)) 32 32 (rdW T N p1 48 57 (-1))) (rdW T N (rdP T N p1 48 57 (-1)) 32 32 (rdW T N p1 48 57 (-1)))) 32 32 (nbW T N (rdP T N (rdP T N p1 48 57 (-1)) 32 32 (rdW T N p1 48 57 (-1))) (rdW T N (rdP T N p1 48 57 (-1)) 32 32 (rdW T N p1 48 57 (-1)))))) (j := 4 * t + 3) rfl
          obtain ⟨m1_3, e3⟩ : ∃ z, z = up m1_2 372 (4 * t + 3) (dgV T N (rdP T N (nbP T N (rdP T N (rdP T N p1 48 57 (-1)) 32 32 (rdW T N p1 48 57 (-1))) (rdW T N (rdP T N p1 48 57 (-1)) 32 32 (rdW T N p1 48 57 (-1)))) 32 32 (nbW T N (rdP T N (rdP T N p1 48 57 (-1)) 32 32 (rdW T N p1 48 57 (-1))) (rdW T N (rdP T N p1 48 57 (-1)) 32 32 (rdW T N p1 48 57 (-1))))) (rdW T N (nbP T N (rdP T N (rdP T N p1 48 57 (-1)) 32 32 (rdW T N p1 48 57 (-1))) (rdW T N (rdP T N p1 48 57 (-1)) 32 32 (rdW T N p1 48 57 (-1)))) 32 32 (nbW T N (rdP T N (rdP T N p1 48 57 (-1)) 32 32 (rdW T N p1 48 57 (-1))) (rdW T N (rdP T N p1 48 57 (-1)) 32 32 (rdW T N p1 48 57 (-1)))))) := ⟨_, rfl⟩
          rw [← e3] at hq3 ⊢
          have h16_3 := hq3.2.2.1 16 (by decide) (by decide) (by decide)
          rw [h16] at h16_3
          have hT_3 := (hq3.2.1 370 (by decide) (by decide)).trans hT
          refine V.iload_n (pc := 136) hB dX10_readsCommand_136 rfl ?_
          refine V.iconst (pc := 137) (v := 4) hB dX10_readsCommand_137 rfl ?_
          refine V.icmp_ne (pc := 138) (tgt := 159) hB dX10_readsCommand_138 (by decide) (fun c_138 => ?_) (fun c_138 => ?_)
          · refine V.iload_n (pc := 159) hB dX10_readsCommand_159 rfl ?_
            refine V.bipush (pc := 160) (v := 6) hB dX10_readsCommand_160 rfl ?_
            refine V.icmp_ne (pc := 162) (tgt := 177) hB dX10_readsCommand_162 (by decide) (fun c_162 => ?_) (fun c_162 => ?_)
            · refine V.retV (pc := 177) hB dX10_readsCommand_177 rfl (by omega) (by omega) ?_
              have hr : rdS T N (prt 1) (p1, -1, []) = ((dgP T N (rdP T N (nbP T N (rdP T N (rdP T N p1 48 57 (-1)) 32 32 (rdW T N p1 48 57 (-1))) (rdW T N (rdP T N p1 48 57 (-1)) 32 32 (rdW T N p1 48 57 (-1)))) 32 32 (nbW T N (rdP T N (rdP T N p1 48 57 (-1)) 32 32 (rdW T N p1 48 57 (-1))) (rdW T N (rdP T N p1 48 57 (-1)) 32 32 (rdW T N p1 48 57 (-1))))) (rdW T N (nbP T N (rdP T N (rdP T N p1 48 57 (-1)) 32 32 (rdW T N p1 48 57 (-1))) (rdW T N (rdP T N p1 48 57 (-1)) 32 32 (rdW T N p1 48 57 (-1)))) 32 32 (nbW T N (rdP T N (rdP T N p1 48 57 (-1)) 32 32 (rdW T N p1 48 57 (-1))) (rdW T N (rdP T N p1 48 57 (-1)) 32 32 (rdW T N p1 48 57 (-1)))))), (dgW T N (rdP T N (nbP T N (rdP T N (rdP T N p1 48 57 (-1)) 32 32 (rdW T N p1 48 57 (-1))) (rdW T N (rdP T N p1 48 57 (-1)) 32 32 (rdW T N p1 48 57 (-1)))) 32 32 (nbW T N (rdP T N (rdP T N p1 48 57 (-1)) 32 32 (rdW T N p1 48 57 (-1))) (rdW T N (rdP T N p1 48 57 (-1)) 32 32 (rdW T N p1 48 57 (-1))))) (rdW T N (nbP T N (rdP T N (rdP T N p1 48 57 (-1)) 32 32 (rdW T N p1 48 57 (-1))) (rdW T N (rdP T N p1 48 57 (-1)) 32 32 (rdW T N p1 48 57 (-1)))) 32 32 (nbW T N (rdP T N (rdP T N p1 48 57 (-1)) 32 32 (rdW T N p1 48 57 (-1))) (rdW T N (rdP T N p1 48 57 (-1)) 32 32 (rdW T N p1 48 57 (-1)))))), [] ++ [(rdV T N p1 48 57 (-1))] ++ [(nbV T N (rdP T N (rdP T N p1 48 57 (-1)) 32 32 (rdW T N p1 48 57 (-1))) (rdW T N (rdP T N p1 48 57 (-1)) 32 32 (rdW T N p1 48 57 (-1))))] ++ [(dgV T N (rdP T N (nbP T N (rdP T N (rdP T N p1 48 57 (-1)) 32 32 (rdW T N p1 48 57 (-1))) (rdW T N (rdP T N p1 48 57 (-1)) 32 32 (rdW T N p1 48 57 (-1)))) 32 32 (nbW T N (rdP T N (rdP T N p1 48 57 (-1)) 32 32 (rdW T N p1 48 57 (-1))) (rdW T N (rdP T N p1 48 57 (-1)) 32 32 (rdW T N p1 48 57 (-1))))) (rdW T N (nbP T N (rdP T N (rdP T N p1 48 57 (-1)) 32 32 (rdW T N p1 48 57 (-1))) (rdW T N (rdP T N p1 48 57 (-1)) 32 32 (rdW T N p1 48 57 (-1)))) 32 32 (nbW T N (rdP T N (rdP T N p1 48 57 (-1)) 32 32 (rdW T N p1 48 57 (-1))) (rdW T N (rdP T N p1 48 57 (-1)) 32 32 (rdW T N p1 48 57 (-1))))))]) := by
                show rdS T N [68, 32, 78, 32, 84] (p1, -1, []) = _
                rw [rdS_D, rdS_c _ _ _ _ _ _ (by decide) (by decide) (by decide), rdS_N, rdS_c _ _ _ _ _ _ (by decide) (by decide) (by decide), rdS_T]
                rfl
              refine Or.inr ⟨1, by decide, hks, hmt, m1_3, ?_, ?_⟩
              · rw [← hTm, ← hpe, hr]
              · rw [← hTm, ← hpe, hr]
                exact hq3
            · exact absurd c_162 (by decide)
          · exact absurd c_138 (by decide)
    · exact (c_40 (by decide)).elim
  have kd2 : ∀ (m1 : Mem) (T : Nat → Int32) (p1 : Nat), (khS (m.1 370) N p 7).2 = nI 2 → mtC (m.1 370) N p (stO 2) (wlO 2) 0 = wlO 2 → T = m.1 370 → p1 = p + wlO 2 → p1 ≤ N → m1.1 370 = T → RQ m m1 t [nI 2] → ∀ (sz : Nat), V g B 0 0 (QM g B 0 0 (rV (fun m2 => ((khS (m.1 370) N p 7).2 = -1 ∧ ∃ m1, m2 = rdM m1 p (nI (khS (m.1 370) N p 7).1) ∧ RQ m m1 t [-1]) ∨ ∃ k, k < 7 ∧ (khS (m.1 370) N p 7).2 = nI k ∧ mtC (m.1 370) N p (stO k) (wlO k) 0 = wlO k ∧ ∃ m1, m2 = rdM m1 (rdS (m.1 370) N (prt k) (p + wlO k, -1, [])).1 (rdS (m.1 370) N (prt k) (p + wlO k, -1, [])).2.1 ∧ RQ m m1 t (nI k :: (rdS (m.1 370) N (prt k) (p + wlO k, -1, [])).2.2))) noX) (hp g (rdM m1 p1 (-1))) sz 38 [some (.ref (ad g 363)), some (.int (nI (4 * t))), some (.int (nI 2)), none] [] := by
    intro m1 T p1 hks hmt hTm hpe hp1 hT hq0 sz
    have hT_0 := hT
    have h16_0 : m1.1 363 16 = nI N := (hq0.2.2.1 16 (by decide) (by decide) (by decide)).trans h16
    have hT := hTm.symm
    refine V.iload_n (pc := 38) hB dX10_readsCommand_38 rfl ?_
    refine V.iconst (pc := 39) (v := 1) hB dX10_readsCommand_39 rfl ?_
    refine V.icmp_eq (pc := 40) (tgt := 54) hB dX10_readsCommand_40 (by decide) (fun c_40 => ?_) (fun c_40 => ?_)
    · exact absurd c_40 (by decide)
    · refine V.iload_n (pc := 43) hB dX10_readsCommand_43 rfl ?_
      refine V.iconst (pc := 44) (v := 5) hB dX10_readsCommand_44 rfl ?_
      refine V.icmp_eq (pc := 45) (tgt := 54) hB dX10_readsCommand_45 (by decide) (fun c_45 => ?_) (fun c_45 => ?_)
      · exact absurd c_45 (by decide)
      · refine V.iload_n (pc := 48) hB dX10_readsCommand_48 rfl ?_
        refine V.bipush (pc := 49) (v := 6) hB dX10_readsCommand_49 rfl ?_
        refine V.icmp_ne (pc := 51) (tgt := 58) hB dX10_readsCommand_51 (by decide) (fun c_51 => ?_) (fun c_51 => ?_)
        · refine V.iconst (pc := 58) (v := 0) hB dX10_readsCommand_58 rfl ?_
          refine V.istore_n (pc := 59) hB dX10_readsCommand_59 (by decide) rfl ?_
          refine V.aload_n (pc := 60) hB dX10_readsCommand_60 rfl ?_
          refine V.get (pc := 61) hB fk_Model 20 wf_X10_41 dX10_readsCommand_61 (by decide) (hp_at (ca_Model _)) rfl ?_
          refine V.iload_n (pc := 64) hB dX10_readsCommand_64 rfl ?_
          refine V.iconst (pc := 65) (v := 1) hB dX10_readsCommand_65 rfl ?_
          refine V.iadd (pc := 66) hB dX10_readsCommand_66 ?_
          rw [show nI (4 * t) + 1 = nI (4 * t + 1) from nI_1 _]
          refine V.iload_n (pc := 67) hB dX10_readsCommand_67 rfl ?_
          refine V.if_eq (pc := 68) (tgt := 78) hB dX10_readsCommand_68 (by decide) (fun c_68 => ?_) (fun c_68 => ?_)
          · refine V.iload_n (pc := 78) hB dX10_readsCommand_78 rfl ?_
            refine V.iconst (pc := 79) (v := 2) hB dX10_readsCommand_79 rfl ?_
            refine V.icmp_ne (pc := 80) (tgt := 90) hB dX10_readsCommand_80 (by decide) (fun c_80 => ?_) (fun c_80 => ?_)
            · exact (c_80 (by decide)).elim
            · refine V.aload_n (pc := 83) hB dX10_readsCommand_83 rfl ?_
              refine V.cv (pc := 84) hB cw_X10_degrees wm_X10_229 wi_X10_degrees ws_X10_degrees dX10_readsCommand_84 (c_X10_degrees hG (m := m1) (p := p1) (w := (-1)) h16_0 hN (Nat.le_trans hp1 hN)) (hp_at (ca_Model _)) fk_Model rfl (by omega) (by decide) rfl (by exact Nat.le_of_ble_eq_true rfl) (by omega) (by omega) kN (kI (fun v_84 m_84 sz h_84 => ?_)) rfl
              rw [hT_0] at h_84
              obtain ⟨rfl, hm_84⟩ := h_84
              subst hm_84
              refine V.goto (pc := 87) (tgt := 94) hB dX10_readsCommand_87 (by decide) ?_
              refine V.iastM (pc := 94) hB (ca_Nums) dX10_readsCommand_94 (ix_nI (by omega) (by decide)) (by decide) ?_
              rw [rdM_num _ _ _ _ (show 372 ≠ 363 by decide)]
              have hq1 := hq0.put (dgV T N p1 (-1)) (j := 4 * t + 1) rfl
              obtain ⟨m1_1, e1⟩ : ∃ z, z = up m1 372 (4 * t + 1) (dgV T N p1 (-1)) := ⟨_, rfl⟩
              rw [← e1] at hq1 ⊢
              have h16_1 := hq1.2.2.1 16 (by decide) (by decide) (by decide)
              rw [h16] at h16_1
              have hT_1 := (hq1.2.1 370 (by decide) (by decide)).trans hT
              refine V.iload_n (pc := 95) hB dX10_readsCommand_95 rfl ?_
              refine V.iconst (pc := 96) (v := 1) hB dX10_readsCommand_96 rfl ?_
              refine V.icmp_ne (pc := 97) (tgt := 136) hB dX10_readsCommand_97 (by decide) (fun c_97 => ?_) (fun c_97 => ?_)
              · refine V.iload_n (pc := 136) hB dX10_readsCommand_136 rfl ?_
                refine V.iconst (pc := 137) (v := 4) hB dX10_readsCommand_137 rfl ?_
                refine V.icmp_ne (pc := 138) (tgt := 159) hB dX10_readsCommand_138 (by decide) (fun c_138 => ?_) (fun c_138 => ?_)
                · refine V.iload_n (pc := 159) hB dX10_readsCommand_159 rfl ?_
                  refine V.bipush (pc := 160) (v := 6) hB dX10_readsCommand_160 rfl ?_
                  refine V.icmp_ne (pc := 162) (tgt := 177) hB dX10_readsCommand_162 (by decide) (fun c_162 => ?_) (fun c_162 => ?_)
                  · refine V.retV (pc := 177) hB dX10_readsCommand_177 rfl (by omega) (by omega) ?_
                    have hr : rdS T N (prt 2) (p1, -1, []) = ((dgP T N p1 (-1)), (dgW T N p1 (-1)), [] ++ [(dgV T N p1 (-1))]) := by
                      show rdS T N [84] (p1, -1, []) = _
                      rw [rdS_T]
                      rfl
                    refine Or.inr ⟨2, by decide, hks, hmt, m1_1, ?_, ?_⟩
                    · rw [← hTm, ← hpe, hr]
                    · rw [← hTm, ← hpe, hr]
                      exact hq1
                  · exact absurd c_162 (by decide)
                · exact absurd c_138 (by decide)
              · exact absurd c_97 (by decide)
          · exact (c_68 rfl).elim
        · exact absurd c_51 (by decide)
  have kd3 : ∀ (m1 : Mem) (T : Nat → Int32) (p1 : Nat), (khS (m.1 370) N p 7).2 = nI 3 → mtC (m.1 370) N p (stO 3) (wlO 3) 0 = wlO 3 → T = m.1 370 → p1 = p + wlO 3 → p1 ≤ N → m1.1 370 = T → RQ m m1 t [nI 3] → ∀ (sz : Nat), V g B 0 0 (QM g B 0 0 (rV (fun m2 => ((khS (m.1 370) N p 7).2 = -1 ∧ ∃ m1, m2 = rdM m1 p (nI (khS (m.1 370) N p 7).1) ∧ RQ m m1 t [-1]) ∨ ∃ k, k < 7 ∧ (khS (m.1 370) N p 7).2 = nI k ∧ mtC (m.1 370) N p (stO k) (wlO k) 0 = wlO k ∧ ∃ m1, m2 = rdM m1 (rdS (m.1 370) N (prt k) (p + wlO k, -1, [])).1 (rdS (m.1 370) N (prt k) (p + wlO k, -1, [])).2.1 ∧ RQ m m1 t (nI k :: (rdS (m.1 370) N (prt k) (p + wlO k, -1, [])).2.2))) noX) (hp g (rdM m1 p1 (-1))) sz 38 [some (.ref (ad g 363)), some (.int (nI (4 * t))), some (.int (nI 3)), none] [] := by
    intro m1 T p1 hks hmt hTm hpe hp1 hT hq0 sz
    have hT_0 := hT
    have h16_0 : m1.1 363 16 = nI N := (hq0.2.2.1 16 (by decide) (by decide) (by decide)).trans h16
    have hT := hTm.symm
    refine V.iload_n (pc := 38) hB dX10_readsCommand_38 rfl ?_
    refine V.iconst (pc := 39) (v := 1) hB dX10_readsCommand_39 rfl ?_
    refine V.icmp_eq (pc := 40) (tgt := 54) hB dX10_readsCommand_40 (by decide) (fun c_40 => ?_) (fun c_40 => ?_)
    · exact absurd c_40 (by decide)
    · refine V.iload_n (pc := 43) hB dX10_readsCommand_43 rfl ?_
      refine V.iconst (pc := 44) (v := 5) hB dX10_readsCommand_44 rfl ?_
      refine V.icmp_eq (pc := 45) (tgt := 54) hB dX10_readsCommand_45 (by decide) (fun c_45 => ?_) (fun c_45 => ?_)
      · exact absurd c_45 (by decide)
      · refine V.iload_n (pc := 48) hB dX10_readsCommand_48 rfl ?_
        refine V.bipush (pc := 49) (v := 6) hB dX10_readsCommand_49 rfl ?_
        refine V.icmp_ne (pc := 51) (tgt := 58) hB dX10_readsCommand_51 (by decide) (fun c_51 => ?_) (fun c_51 => ?_)
        · refine V.iconst (pc := 58) (v := 0) hB dX10_readsCommand_58 rfl ?_
          refine V.istore_n (pc := 59) hB dX10_readsCommand_59 (by decide) rfl ?_
          refine V.aload_n (pc := 60) hB dX10_readsCommand_60 rfl ?_
          refine V.get (pc := 61) hB fk_Model 20 wf_X10_41 dX10_readsCommand_61 (by decide) (hp_at (ca_Model _)) rfl ?_
          refine V.iload_n (pc := 64) hB dX10_readsCommand_64 rfl ?_
          refine V.iconst (pc := 65) (v := 1) hB dX10_readsCommand_65 rfl ?_
          refine V.iadd (pc := 66) hB dX10_readsCommand_66 ?_
          rw [show nI (4 * t) + 1 = nI (4 * t + 1) from nI_1 _]
          refine V.iload_n (pc := 67) hB dX10_readsCommand_67 rfl ?_
          refine V.if_eq (pc := 68) (tgt := 78) hB dX10_readsCommand_68 (by decide) (fun c_68 => ?_) (fun c_68 => ?_)
          · refine V.iload_n (pc := 78) hB dX10_readsCommand_78 rfl ?_
            refine V.iconst (pc := 79) (v := 2) hB dX10_readsCommand_79 rfl ?_
            refine V.icmp_ne (pc := 80) (tgt := 90) hB dX10_readsCommand_80 (by decide) (fun c_80 => ?_) (fun c_80 => ?_)
            · refine V.aload_n (pc := 90) hB dX10_readsCommand_90 rfl ?_
              refine V.cv (pc := 91) hB cw_X10_number wm_X10_209 wi_X10_number ws_X10_number dX10_readsCommand_91 (c_X10_number hG (m := m1) (p := p1) (w := (-1)) h16_0 hN (Nat.le_trans hp1 hN)) (hp_at (ca_Model _)) fk_Model rfl (by omega) (by decide) rfl (by exact Nat.le_of_ble_eq_true rfl) (by omega) (by omega) kN (kI (fun v_91 m_91 sz h_91 => ?_)) rfl
              rw [hT_0] at h_91
              obtain ⟨rfl, hm_91⟩ := h_91
              subst hm_91
              refine V.iastM (pc := 94) hB (ca_Nums) dX10_readsCommand_94 (ix_nI (by omega) (by decide)) (by decide) ?_
              rw [rdM_num _ _ _ _ (show 372 ≠ 363 by decide)]
              have hq1 := hq0.put (nbV T N p1 (-1)) (j := 4 * t + 1) rfl
              obtain ⟨m1_1, e1⟩ : ∃ z, z = up m1 372 (4 * t + 1) (nbV T N p1 (-1)) := ⟨_, rfl⟩
              rw [← e1] at hq1 ⊢
              have h16_1 := hq1.2.2.1 16 (by decide) (by decide) (by decide)
              rw [h16] at h16_1
              have hT_1 := (hq1.2.1 370 (by decide) (by decide)).trans hT
              refine V.iload_n (pc := 95) hB dX10_readsCommand_95 rfl ?_
              refine V.iconst (pc := 96) (v := 1) hB dX10_readsCommand_96 rfl ?_
              refine V.icmp_ne (pc := 97) (tgt := 136) hB dX10_readsCommand_97 (by decide) (fun c_97 => ?_) (fun c_97 => ?_)
              · refine V.iload_n (pc := 136) hB dX10_readsCommand_136 rfl ?_
                refine V.iconst (pc := 137) (v := 4) hB dX10_readsCommand_137 rfl ?_
                refine V.icmp_ne (pc := 138) (tgt := 159) hB dX10_readsCommand_138 (by decide) (fun c_138 => ?_) (fun c_138 => ?_)
                · refine V.iload_n (pc := 159) hB dX10_readsCommand_159 rfl ?_
                  refine V.bipush (pc := 160) (v := 6) hB dX10_readsCommand_160 rfl ?_
                  refine V.icmp_ne (pc := 162) (tgt := 177) hB dX10_readsCommand_162 (by decide) (fun c_162 => ?_) (fun c_162 => ?_)
                  · refine V.retV (pc := 177) hB dX10_readsCommand_177 rfl (by omega) (by omega) ?_
                    have hr : rdS T N (prt 3) (p1, -1, []) = ((nbP T N p1 (-1)), (nbW T N p1 (-1)), [] ++ [(nbV T N p1 (-1))]) := by
                      show rdS T N [78] (p1, -1, []) = _
                      rw [rdS_N]
                      rfl
                    refine Or.inr ⟨3, by decide, hks, hmt, m1_1, ?_, ?_⟩
                    · rw [← hTm, ← hpe, hr]
                    · rw [← hTm, ← hpe, hr]
                      exact hq1
                  · exact absurd c_162 (by decide)
                · exact absurd c_138 (by decide)
              · exact absurd c_97 (by decide)
            · exact absurd c_80 (by decide)
          · exact (c_68 rfl).elim
        · exact absurd c_51 (by decide)
  have kd4 : ∀ (m1 : Mem) (T : Nat → Int32) (p1 : Nat), (khS (m.1 370) N p 7).2 = nI 4 → mtC (m.1 370) N p (stO 4) (wlO 4) 0 = wlO 4 → T = m.1 370 → p1 = p + wlO 4 → p1 ≤ N → m1.1 370 = T → RQ m m1 t [nI 4] → ∀ (sz : Nat), V g B 0 0 (QM g B 0 0 (rV (fun m2 => ((khS (m.1 370) N p 7).2 = -1 ∧ ∃ m1, m2 = rdM m1 p (nI (khS (m.1 370) N p 7).1) ∧ RQ m m1 t [-1]) ∨ ∃ k, k < 7 ∧ (khS (m.1 370) N p 7).2 = nI k ∧ mtC (m.1 370) N p (stO k) (wlO k) 0 = wlO k ∧ ∃ m1, m2 = rdM m1 (rdS (m.1 370) N (prt k) (p + wlO k, -1, [])).1 (rdS (m.1 370) N (prt k) (p + wlO k, -1, [])).2.1 ∧ RQ m m1 t (nI k :: (rdS (m.1 370) N (prt k) (p + wlO k, -1, [])).2.2))) noX) (hp g (rdM m1 p1 (-1))) sz 38 [some (.ref (ad g 363)), some (.int (nI (4 * t))), some (.int (nI 4)), none] [] := by
    intro m1 T p1 hks hmt hTm hpe hp1 hT hq0 sz
    have hT_0 := hT
    have h16_0 : m1.1 363 16 = nI N := (hq0.2.2.1 16 (by decide) (by decide) (by decide)).trans h16
    have hT := hTm.symm
    refine V.iload_n (pc := 38) hB dX10_readsCommand_38 rfl ?_
    refine V.iconst (pc := 39) (v := 1) hB dX10_readsCommand_39 rfl ?_
    refine V.icmp_eq (pc := 40) (tgt := 54) hB dX10_readsCommand_40 (by decide) (fun c_40 => ?_) (fun c_40 => ?_)
    · exact absurd c_40 (by decide)
    · refine V.iload_n (pc := 43) hB dX10_readsCommand_43 rfl ?_
      refine V.iconst (pc := 44) (v := 5) hB dX10_readsCommand_44 rfl ?_
      refine V.icmp_eq (pc := 45) (tgt := 54) hB dX10_readsCommand_45 (by decide) (fun c_45 => ?_) (fun c_45 => ?_)
      · exact absurd c_45 (by decide)
      · refine V.iload_n (pc := 48) hB dX10_readsCommand_48 rfl ?_
        refine V.bipush (pc := 49) (v := 6) hB dX10_readsCommand_49 rfl ?_
        refine V.icmp_ne (pc := 51) (tgt := 58) hB dX10_readsCommand_51 (by decide) (fun c_51 => ?_) (fun c_51 => ?_)
        · refine V.iconst (pc := 58) (v := 0) hB dX10_readsCommand_58 rfl ?_
          refine V.istore_n (pc := 59) hB dX10_readsCommand_59 (by decide) rfl ?_
          refine V.aload_n (pc := 60) hB dX10_readsCommand_60 rfl ?_
          refine V.get (pc := 61) hB fk_Model 20 wf_X10_41 dX10_readsCommand_61 (by decide) (hp_at (ca_Model _)) rfl ?_
          refine V.iload_n (pc := 64) hB dX10_readsCommand_64 rfl ?_
          refine V.iconst (pc := 65) (v := 1) hB dX10_readsCommand_65 rfl ?_
          refine V.iadd (pc := 66) hB dX10_readsCommand_66 ?_
          rw [show nI (4 * t) + 1 = nI (4 * t + 1) from nI_1 _]
          refine V.iload_n (pc := 67) hB dX10_readsCommand_67 rfl ?_
          refine V.if_eq (pc := 68) (tgt := 78) hB dX10_readsCommand_68 (by decide) (fun c_68 => ?_) (fun c_68 => ?_)
          · refine V.iload_n (pc := 78) hB dX10_readsCommand_78 rfl ?_
            refine V.iconst (pc := 79) (v := 2) hB dX10_readsCommand_79 rfl ?_
            refine V.icmp_ne (pc := 80) (tgt := 90) hB dX10_readsCommand_80 (by decide) (fun c_80 => ?_) (fun c_80 => ?_)
            · refine V.aload_n (pc := 90) hB dX10_readsCommand_90 rfl ?_
              refine V.cv (pc := 91) hB cw_X10_number wm_X10_209 wi_X10_number ws_X10_number dX10_readsCommand_91 (c_X10_number hG (m := m1) (p := p1) (w := (-1)) h16_0 hN (Nat.le_trans hp1 hN)) (hp_at (ca_Model _)) fk_Model rfl (by omega) (by decide) rfl (by exact Nat.le_of_ble_eq_true rfl) (by omega) (by omega) kN (kI (fun v_91 m_91 sz h_91 => ?_)) rfl
              rw [hT_0] at h_91
              obtain ⟨rfl, hm_91⟩ := h_91
              subst hm_91
              refine V.iastM (pc := 94) hB (ca_Nums) dX10_readsCommand_94 (ix_nI (by omega) (by decide)) (by decide) ?_
              rw [rdM_num _ _ _ _ (show 372 ≠ 363 by decide)]
              have hq1 := hq0.put (nbV T N p1 (-1)) (j := 4 * t + 1) rfl
              obtain ⟨m1_1, e1⟩ : ∃ z, z = up m1 372 (4 * t + 1) (nbV T N p1 (-1)) := ⟨_, rfl⟩
              rw [← e1] at hq1 ⊢
              have h16_1 := hq1.2.2.1 16 (by decide) (by decide) (by decide)
              rw [h16] at h16_1
              have hT_1 := (hq1.2.1 370 (by decide) (by decide)).trans hT
              refine V.iload_n (pc := 95) hB dX10_readsCommand_95 rfl ?_
              refine V.iconst (pc := 96) (v := 1) hB dX10_readsCommand_96 rfl ?_
              refine V.icmp_ne (pc := 97) (tgt := 136) hB dX10_readsCommand_97 (by decide) (fun c_97 => ?_) (fun c_97 => ?_)
              · refine V.iload_n (pc := 136) hB dX10_readsCommand_136 rfl ?_
                refine V.iconst (pc := 137) (v := 4) hB dX10_readsCommand_137 rfl ?_
                refine V.icmp_ne (pc := 138) (tgt := 159) hB dX10_readsCommand_138 (by decide) (fun c_138 => ?_) (fun c_138 => ?_)
                · exact (c_138 (by decide)).elim
                · refine V.aload_n (pc := 141) hB dX10_readsCommand_141 rfl ?_
                  refine V.bipush (pc := 142) (v := 45) hB dX10_readsCommand_142 rfl ?_
                  refine V.cv (pc := 144) hB cw_X10_sign wm_X10_232 wi_X10_sign ws_X10_sign dX10_readsCommand_144 (c_X10_sign hG (m := m1_1) (p := (nbP T N p1 (-1))) (w := (nbW T N p1 (-1))) h16_1 hN (Nat.le_trans (nbP_N hp1) hN) (c := 45) (by decide)) (hp_at (ca_Model _)) fk_Model rfl (by omega) (by decide) rfl (by exact Nat.le_of_ble_eq_true rfl) (by omega) (by omega) kN (kV (fun m_144 sz h_144 => ?_)) rfl
                  rw [hT_1] at h_144
                  subst h_144
                  refine V.aload_n (pc := 147) hB dX10_readsCommand_147 rfl ?_
                  refine V.get (pc := 148) hB fk_Model 20 wf_X10_41 dX10_readsCommand_148 (by decide) (hp_at (ca_Model _)) rfl ?_
                  refine V.iload_n (pc := 151) hB dX10_readsCommand_151 rfl ?_
                  refine V.iconst (pc := 152) (v := 2) hB dX10_readsCommand_152 rfl ?_
                  refine V.iadd (pc := 153) hB dX10_readsCommand_153 ?_
                  rw [show nI (4 * t) + 2 = nI (4 * t + 2) from nI_add _ 2]
                  refine V.aload_n (pc := 154) hB dX10_readsCommand_154 rfl ?_
                  refine V.cv (pc := 155) hB cw_X10_number wm_X10_209 wi_X10_number ws_X10_number dX10_readsCommand_155 (c_X10_number hG (m := m1_1) (p := (rdP T N (nbP T N p1 (-1)) 45 45 (nbW T N p1 (-1)))) (w := (rdW T N (nbP T N p1 (-1)) 45 45 (nbW T N p1 (-1)))) h16_1 hN (Nat.le_trans (rdP_N (nbP_N hp1)) hN)) (hp_at (ca_Model _)) fk_Model rfl (by omega) (by decide) rfl (by exact Nat.le_of_ble_eq_true rfl) (by omega) (by omega) kN (kI (fun v_155 m_155 sz h_155 => ?_)) rfl
                  rw [hT_1] at h_155
                  obtain ⟨rfl, hm_155⟩ := h_155
                  subst hm_155
                  refine V.iastM (pc := 158) hB (ca_Nums) dX10_readsCommand_158 (ix_nI (by omega) (by decide)) (by decide) ?_
                  rw [rdM_num _ _ _ _ (show 372 ≠ 363 by decide)]
                  have hq2 := hq1.put (nbV T N (rdP T N (nbP T N p1 (-1)) 45 45 (nbW T N p1 (-1))) (rdW T N (nbP T N p1 (-1)) 45 45 (nbW T N p1 (-1)))) (j := 4 * t + 2) rfl
                  obtain ⟨m1_2, e2⟩ : ∃ z, z = up m1_1 372 (4 * t + 2) (nbV T N (rdP T N (nbP T N p1 (-1)) 45 45 (nbW T N p1 (-1))) (rdW T N (nbP T N p1 (-1)) 45 45 (nbW T N p1 (-1)))) := ⟨_, rfl⟩
                  rw [← e2] at hq2 ⊢
                  have h16_2 := hq2.2.2.1 16 (by decide) (by decide) (by decide)
                  rw [h16] at h16_2
                  have hT_2 := (hq2.2.1 370 (by decide) (by decide)).trans hT
                  refine V.iload_n (pc := 159) hB dX10_readsCommand_159 rfl ?_
                  refine V.bipush (pc := 160) (v := 6) hB dX10_readsCommand_160 rfl ?_
                  refine V.icmp_ne (pc := 162) (tgt := 177) hB dX10_readsCommand_162 (by decide) (fun c_162 => ?_) (fun c_162 => ?_)
                  · refine V.retV (pc := 177) hB dX10_readsCommand_177 rfl (by omega) (by omega) ?_
                    have hr : rdS T N (prt 4) (p1, -1, []) = ((nbP T N (rdP T N (nbP T N p1 (-1)) 45 45 (nbW T N p1 (-1))) (rdW T N (nbP T N p1 (-1)) 45 45 (nbW T N p1 (-1)))), (nbW T N (rdP T N (nbP T N p1 (-1)) 45 45 (nbW T N p1 (-1))) (rdW T N (nbP T N p1 (-1)) 45 45 (nbW T N p1 (-1)))), [] ++ [(nbV T N p1 (-1))] ++ [(nbV T N (rdP T N (nbP T N p1 (-1)) 45 45 (nbW T N p1 (-1))) (rdW T N (nbP T N p1 (-1)) 45 45 (nbW T N p1 (-1))))]) := by
                      show rdS T N [78, 45, 78] (p1, -1, []) = _
                      rw [rdS_N, rdS_c _ _ _ _ _ _ (by decide) (by decide) (by decide), rdS_N]
                      rfl
                    refine Or.inr ⟨4, by decide, hks, hmt, m1_2, ?_, ?_⟩
                    · rw [← hTm, ← hpe, hr]
                    · rw [← hTm, ← hpe, hr]
                      exact hq2
                  · exact absurd c_162 (by decide)
              · exact absurd c_97 (by decide)
            · exact absurd c_80 (by decide)
          · exact (c_68 rfl).elim
        · exact absurd c_51 (by decide)
  have kd5 : ∀ (m1 : Mem) (T : Nat → Int32) (p1 : Nat), (khS (m.1 370) N p 7).2 = nI 5 → mtC (m.1 370) N p (stO 5) (wlO 5) 0 = wlO 5 → T = m.1 370 → p1 = p + wlO 5 → p1 ≤ N → m1.1 370 = T → RQ m m1 t [nI 5] → ∀ (sz : Nat), V g B 0 0 (QM g B 0 0 (rV (fun m2 => ((khS (m.1 370) N p 7).2 = -1 ∧ ∃ m1, m2 = rdM m1 p (nI (khS (m.1 370) N p 7).1) ∧ RQ m m1 t [-1]) ∨ ∃ k, k < 7 ∧ (khS (m.1 370) N p 7).2 = nI k ∧ mtC (m.1 370) N p (stO k) (wlO k) 0 = wlO k ∧ ∃ m1, m2 = rdM m1 (rdS (m.1 370) N (prt k) (p + wlO k, -1, [])).1 (rdS (m.1 370) N (prt k) (p + wlO k, -1, [])).2.1 ∧ RQ m m1 t (nI k :: (rdS (m.1 370) N (prt k) (p + wlO k, -1, [])).2.2))) noX) (hp g (rdM m1 p1 (-1))) sz 38 [some (.ref (ad g 363)), some (.int (nI (4 * t))), some (.int (nI 5)), none] [] := by
    intro m1 T p1 hks hmt hTm hpe hp1 hT hq0 sz
    have hT_0 := hT
    have h16_0 : m1.1 363 16 = nI N := (hq0.2.2.1 16 (by decide) (by decide) (by decide)).trans h16
    have hT := hTm.symm
    refine V.iload_n (pc := 38) hB dX10_readsCommand_38 rfl ?_
    refine V.iconst (pc := 39) (v := 1) hB dX10_readsCommand_39 rfl ?_
    refine V.icmp_eq (pc := 40) (tgt := 54) hB dX10_readsCommand_40 (by decide) (fun c_40 => ?_) (fun c_40 => ?_)
    · exact absurd c_40 (by decide)
    · refine V.iload_n (pc := 43) hB dX10_readsCommand_43 rfl ?_
      refine V.iconst (pc := 44) (v := 5) hB dX10_readsCommand_44 rfl ?_
      refine V.icmp_eq (pc := 45) (tgt := 54) hB dX10_readsCommand_45 (by decide) (fun c_45 => ?_) (fun c_45 => ?_)
      · refine V.iconst (pc := 54) (v := 1) hB dX10_readsCommand_54 rfl ?_
        refine V.goto (pc := 55) (tgt := 59) hB dX10_readsCommand_55 (by decide) ?_
        refine V.istore_n (pc := 59) hB dX10_readsCommand_59 (by decide) rfl ?_
        refine V.aload_n (pc := 60) hB dX10_readsCommand_60 rfl ?_
        refine V.get (pc := 61) hB fk_Model 20 wf_X10_41 dX10_readsCommand_61 (by decide) (hp_at (ca_Model _)) rfl ?_
        refine V.iload_n (pc := 64) hB dX10_readsCommand_64 rfl ?_
        refine V.iconst (pc := 65) (v := 1) hB dX10_readsCommand_65 rfl ?_
        refine V.iadd (pc := 66) hB dX10_readsCommand_66 ?_
        rw [show nI (4 * t) + 1 = nI (4 * t + 1) from nI_1 _]
        refine V.iload_n (pc := 67) hB dX10_readsCommand_67 rfl ?_
        refine V.if_eq (pc := 68) (tgt := 78) hB dX10_readsCommand_68 (by decide) (fun c_68 => ?_) (fun c_68 => ?_)
        · exact absurd c_68 (by decide)
        · refine V.aload_n (pc := 71) hB dX10_readsCommand_71 rfl ?_
          refine V.cv (pc := 72) hB cw_X10_digit wm_X10_206 wi_X10_digit ws_X10_digit dX10_readsCommand_72 (c_X10_digit hG (m := m1) (p := p1) (w := (-1)) h16_0 hN (Nat.le_trans hp1 hN)) (hp_at (ca_Model _)) fk_Model rfl (by omega) (by decide) rfl (by exact Nat.le_of_ble_eq_true rfl) (by omega) (by omega) kN (kI (fun v_72 m_72 sz h_72 => ?_)) rfl
          rw [hT_0] at h_72
          obtain ⟨rfl, hm_72⟩ := h_72
          subst hm_72
          refine V.goto (pc := 75) (tgt := 94) hB dX10_readsCommand_75 (by decide) ?_
          refine V.iastM (pc := 94) hB (ca_Nums) dX10_readsCommand_94 (ix_nI (by omega) (by decide)) (by decide) ?_
          rw [rdM_num _ _ _ _ (show 372 ≠ 363 by decide)]
          have hq1 := hq0.put (rdV T N p1 48 57 (-1)) (j := 4 * t + 1) rfl
          obtain ⟨m1_1, e1⟩ : ∃ z, z = up m1 372 (4 * t + 1) (rdV T N p1 48 57 (-1)) := ⟨_, rfl⟩
          rw [← e1] at hq1 ⊢
          have h16_1 := hq1.2.2.1 16 (by decide) (by decide) (by decide)
          rw [h16] at h16_1
          have hT_1 := (hq1.2.1 370 (by decide) (by decide)).trans hT
          refine V.iload_n (pc := 95) hB dX10_readsCommand_95 rfl ?_
          refine V.iconst (pc := 96) (v := 1) hB dX10_readsCommand_96 rfl ?_
          refine V.icmp_ne (pc := 97) (tgt := 136) hB dX10_readsCommand_97 (by decide) (fun c_97 => ?_) (fun c_97 => ?_)
          · refine V.iload_n (pc := 136) hB dX10_readsCommand_136 rfl ?_
            refine V.iconst (pc := 137) (v := 4) hB dX10_readsCommand_137 rfl ?_
            refine V.icmp_ne (pc := 138) (tgt := 159) hB dX10_readsCommand_138 (by decide) (fun c_138 => ?_) (fun c_138 => ?_)
            · refine V.iload_n (pc := 159) hB dX10_readsCommand_159 rfl ?_
              refine V.bipush (pc := 160) (v := 6) hB dX10_readsCommand_160 rfl ?_
              refine V.icmp_ne (pc := 162) (tgt := 177) hB dX10_readsCommand_162 (by decide) (fun c_162 => ?_) (fun c_162 => ?_)
              · refine V.retV (pc := 177) hB dX10_readsCommand_177 rfl (by omega) (by omega) ?_
                have hr : rdS T N (prt 5) (p1, -1, []) = ((rdP T N p1 48 57 (-1)), (rdW T N p1 48 57 (-1)), [] ++ [(rdV T N p1 48 57 (-1))]) := by
                  show rdS T N [68] (p1, -1, []) = _
                  rw [rdS_D]
                  rfl
                refine Or.inr ⟨5, by decide, hks, hmt, m1_1, ?_, ?_⟩
                · rw [← hTm, ← hpe, hr]
                · rw [← hTm, ← hpe, hr]
                  exact hq1
              · exact absurd c_162 (by decide)
            · exact absurd c_138 (by decide)
          · exact absurd c_97 (by decide)
      · exact (c_45 (by decide)).elim
  have kd6 : ∀ (m1 : Mem) (T : Nat → Int32) (p1 : Nat), (khS (m.1 370) N p 7).2 = nI 6 → mtC (m.1 370) N p (stO 6) (wlO 6) 0 = wlO 6 → T = m.1 370 → p1 = p + wlO 6 → p1 ≤ N → m1.1 370 = T → RQ m m1 t [nI 6] → ∀ (sz : Nat), V g B 0 0 (QM g B 0 0 (rV (fun m2 => ((khS (m.1 370) N p 7).2 = -1 ∧ ∃ m1, m2 = rdM m1 p (nI (khS (m.1 370) N p 7).1) ∧ RQ m m1 t [-1]) ∨ ∃ k, k < 7 ∧ (khS (m.1 370) N p 7).2 = nI k ∧ mtC (m.1 370) N p (stO k) (wlO k) 0 = wlO k ∧ ∃ m1, m2 = rdM m1 (rdS (m.1 370) N (prt k) (p + wlO k, -1, [])).1 (rdS (m.1 370) N (prt k) (p + wlO k, -1, [])).2.1 ∧ RQ m m1 t (nI k :: (rdS (m.1 370) N (prt k) (p + wlO k, -1, [])).2.2))) noX) (hp g (rdM m1 p1 (-1))) sz 38 [some (.ref (ad g 363)), some (.int (nI (4 * t))), some (.int (nI 6)), none] [] := by
    intro m1 T p1 hks hmt hTm hpe hp1 hT hq0 sz
    have hT_0 := hT
    have h16_0 : m1.1 363 16 = nI N := (hq0.2.2.1 16 (by decide) (by decide) (by decide)).trans h16
    have hT := hTm.symm
    refine V.iload_n (pc := 38) hB dX10_readsCommand_38 rfl ?_
    refine V.iconst (pc := 39) (v := 1) hB dX10_readsCommand_39 rfl ?_
    refine V.icmp_eq (pc := 40) (tgt := 54) hB dX10_readsCommand_40 (by decide) (fun c_40 => ?_) (fun c_40 => ?_)
    · exact absurd c_40 (by decide)
    · refine V.iload_n (pc := 43) hB dX10_readsCommand_43 rfl ?_
      refine V.iconst (pc := 44) (v := 5) hB dX10_readsCommand_44 rfl ?_
      refine V.icmp_eq (pc := 45) (tgt := 54) hB dX10_readsCommand_45 (by decide) (fun c_45 => ?_) (fun c_45 => ?_)
      · exact absurd c_45 (by decide)
      · refine V.iload_n (pc := 48) hB dX10_readsCommand_48 rfl ?_
        refine V.bipush (pc := 49) (v := 6) hB dX10_readsCommand_49 rfl ?_
        refine V.icmp_ne (pc := 51) (tgt := 58) hB dX10_readsCommand_51 (by decide) (fun c_51 => ?_) (fun c_51 => ?_)
        · exact (c_51 (by decide)).elim
        · refine V.iconst (pc := 54) (v := 1) hB dX10_readsCommand_54 rfl ?_
          refine V.goto (pc := 55) (tgt := 59) hB dX10_readsCommand_55 (by decide) ?_
          refine V.istore_n (pc := 59) hB dX10_readsCommand_59 (by decide) rfl ?_
          refine V.aload_n (pc := 60) hB dX10_readsCommand_60 rfl ?_
          refine V.get (pc := 61) hB fk_Model 20 wf_X10_41 dX10_readsCommand_61 (by decide) (hp_at (ca_Model _)) rfl ?_
          refine V.iload_n (pc := 64) hB dX10_readsCommand_64 rfl ?_
          refine V.iconst (pc := 65) (v := 1) hB dX10_readsCommand_65 rfl ?_
          refine V.iadd (pc := 66) hB dX10_readsCommand_66 ?_
          rw [show nI (4 * t) + 1 = nI (4 * t + 1) from nI_1 _]
          refine V.iload_n (pc := 67) hB dX10_readsCommand_67 rfl ?_
          refine V.if_eq (pc := 68) (tgt := 78) hB dX10_readsCommand_68 (by decide) (fun c_68 => ?_) (fun c_68 => ?_)
          · exact absurd c_68 (by decide)
          · refine V.aload_n (pc := 71) hB dX10_readsCommand_71 rfl ?_
            refine V.cv (pc := 72) hB cw_X10_digit wm_X10_206 wi_X10_digit ws_X10_digit dX10_readsCommand_72 (c_X10_digit hG (m := m1) (p := p1) (w := (-1)) h16_0 hN (Nat.le_trans hp1 hN)) (hp_at (ca_Model _)) fk_Model rfl (by omega) (by decide) rfl (by exact Nat.le_of_ble_eq_true rfl) (by omega) (by omega) kN (kI (fun v_72 m_72 sz h_72 => ?_)) rfl
            rw [hT_0] at h_72
            obtain ⟨rfl, hm_72⟩ := h_72
            subst hm_72
            refine V.goto (pc := 75) (tgt := 94) hB dX10_readsCommand_75 (by decide) ?_
            refine V.iastM (pc := 94) hB (ca_Nums) dX10_readsCommand_94 (ix_nI (by omega) (by decide)) (by decide) ?_
            rw [rdM_num _ _ _ _ (show 372 ≠ 363 by decide)]
            have hq1 := hq0.put (rdV T N p1 48 57 (-1)) (j := 4 * t + 1) rfl
            obtain ⟨m1_1, e1⟩ : ∃ z, z = up m1 372 (4 * t + 1) (rdV T N p1 48 57 (-1)) := ⟨_, rfl⟩
            rw [← e1] at hq1 ⊢
            have h16_1 := hq1.2.2.1 16 (by decide) (by decide) (by decide)
            rw [h16] at h16_1
            have hT_1 := (hq1.2.1 370 (by decide) (by decide)).trans hT
            refine V.iload_n (pc := 95) hB dX10_readsCommand_95 rfl ?_
            refine V.iconst (pc := 96) (v := 1) hB dX10_readsCommand_96 rfl ?_
            refine V.icmp_ne (pc := 97) (tgt := 136) hB dX10_readsCommand_97 (by decide) (fun c_97 => ?_) (fun c_97 => ?_)
            · refine V.iload_n (pc := 136) hB dX10_readsCommand_136 rfl ?_
              refine V.iconst (pc := 137) (v := 4) hB dX10_readsCommand_137 rfl ?_
              refine V.icmp_ne (pc := 138) (tgt := 159) hB dX10_readsCommand_138 (by decide) (fun c_138 => ?_) (fun c_138 => ?_)
              · refine V.iload_n (pc := 159) hB dX10_readsCommand_159 rfl ?_
                refine V.bipush (pc := 160) (v := 6) hB dX10_readsCommand_160 rfl ?_
                refine V.icmp_ne (pc := 162) (tgt := 177) hB dX10_readsCommand_162 (by decide) (fun c_162 => ?_) (fun c_162 => ?_)
                · exact (c_162 (by decide)).elim
                · refine V.aload_n (pc := 165) hB dX10_readsCommand_165 rfl ?_
                  refine V.get (pc := 166) hB fk_Model 20 wf_X10_41 dX10_readsCommand_166 (by decide) (hp_at (ca_Model _)) rfl ?_
                  refine V.iload_n (pc := 169) hB dX10_readsCommand_169 rfl ?_
                  refine V.iconst (pc := 170) (v := 2) hB dX10_readsCommand_170 rfl ?_
                  refine V.iadd (pc := 171) hB dX10_readsCommand_171 ?_
                  rw [show nI (4 * t) + 2 = nI (4 * t + 2) from nI_add _ 2]
                  refine V.aload_n (pc := 172) hB dX10_readsCommand_172 rfl ?_
                  refine V.cv (pc := 173) hB cw_X10_digit wm_X10_206 wi_X10_digit ws_X10_digit dX10_readsCommand_173 (c_X10_digit hG (m := m1_1) (p := (rdP T N p1 48 57 (-1))) (w := (rdW T N p1 48 57 (-1))) h16_1 hN (Nat.le_trans (rdP_N hp1) hN)) (hp_at (ca_Model _)) fk_Model rfl (by omega) (by decide) rfl (by exact Nat.le_of_ble_eq_true rfl) (by omega) (by omega) kN (kI (fun v_173 m_173 sz h_173 => ?_)) rfl
                  rw [hT_1] at h_173
                  obtain ⟨rfl, hm_173⟩ := h_173
                  subst hm_173
                  refine V.iastM (pc := 176) hB (ca_Nums) dX10_readsCommand_176 (ix_nI (by omega) (by decide)) (by decide) ?_
                  rw [rdM_num _ _ _ _ (show 372 ≠ 363 by decide)]
                  have hq2 := hq1.put (rdV T N (rdP T N p1 48 57 (-1)) 48 57 (rdW T N p1 48 57 (-1))) (j := 4 * t + 2) rfl
                  obtain ⟨m1_2, e2⟩ : ∃ z, z = up m1_1 372 (4 * t + 2) (rdV T N (rdP T N p1 48 57 (-1)) 48 57 (rdW T N p1 48 57 (-1))) := ⟨_, rfl⟩
                  rw [← e2] at hq2 ⊢
                  have h16_2 := hq2.2.2.1 16 (by decide) (by decide) (by decide)
                  rw [h16] at h16_2
                  have hT_2 := (hq2.2.1 370 (by decide) (by decide)).trans hT
                  refine V.retV (pc := 177) hB dX10_readsCommand_177 rfl (by omega) (by omega) ?_
                  have hr : rdS T N (prt 6) (p1, -1, []) = ((rdP T N (rdP T N p1 48 57 (-1)) 48 57 (rdW T N p1 48 57 (-1))), (rdW T N (rdP T N p1 48 57 (-1)) 48 57 (rdW T N p1 48 57 (-1))), [] ++ [(rdV T N p1 48 57 (-1))] ++ [(rdV T N (rdP T N p1 48 57 (-1)) 48 57 (rdW T N p1 48 57 (-1)))]) := by
                    show rdS T N [68, 68] (p1, -1, []) = _
                    rw [rdS_D, rdS_D]
                    rfl
                  refine Or.inr ⟨6, by decide, hks, hmt, m1_2, ?_, ?_⟩
                  · rw [← hTm, ← hpe, hr]
                  · rw [← hTm, ← hpe, hr]
                    exact hq2
              · exact absurd c_138 (by decide)
            · exact absurd c_97 (by decide)
  have no : (khS (m.1 370) N p 7).2 = -1 → ∀ (sz : Nat), V g B 0 0 (QM g B 0 0 (rV (fun m2 => ((khS (m.1 370) N p 7).2 = -1 ∧ ∃ m1, m2 = rdM m1 p (nI (khS (m.1 370) N p 7).1) ∧ RQ m m1 t [-1]) ∨ ∃ k, k < 7 ∧ (khS (m.1 370) N p 7).2 = nI k ∧ mtC (m.1 370) N p (stO k) (wlO k) 0 = wlO k ∧ ∃ m1, m2 = rdM m1 (rdS (m.1 370) N (prt k) (p + wlO k, -1, [])).1 (rdS (m.1 370) N (prt k) (p + wlO k, -1, [])).2.1 ∧ RQ m m1 t (nI k :: (rdS (m.1 370) N (prt k) (p + wlO k, -1, [])).2.2))) noX) (hp g (rdM m p (nI (khS (m.1 370) N p 7).1))) sz 11 [some (.ref (ad g 363)), some (.int (nI (4 * t))), none, none] [.int (-1)] := by
    intro hk1 sz
    refine V.istore_n (pc := 11) hB dX10_readsCommand_11 (by decide) rfl ?_
    refine V.aload_n (pc := 12) hB dX10_readsCommand_12 rfl ?_
    refine V.get (pc := 13) hB fk_Model 20 wf_X10_41 dX10_readsCommand_13 (by decide) (hp_at (ca_Model _)) rfl ?_
    refine V.iload_n (pc := 16) hB dX10_readsCommand_16 rfl ?_
    refine V.iload_n (pc := 17) hB dX10_readsCommand_17 rfl ?_
    refine V.iastM (pc := 18) hB (ca_Nums) dX10_readsCommand_18 (ix_nI (by omega) (by decide)) (by decide) ?_
    rw [rdM_num _ _ _ _ (show 372 ≠ 363 by decide)]
    refine V.aload_n (pc := 19) hB dX10_readsCommand_19 rfl ?_
    refine V.dup (pc := 20) hB dX10_readsCommand_20 rfl ?_
    refine V.get (pc := 21) hB fk_Model 19 wf_X10_223 dX10_readsCommand_21 (by decide) (hp_at (ca_Model _)) rfl ?_
    rw [rdM_o _ _ _ (by decide) (by decide), up_cell _ _ _ (by decide), h19]
    refine V.iconst (pc := 24) (v := 1) hB dX10_readsCommand_24 rfl ?_
    refine V.iadd (pc := 25) hB dX10_readsCommand_25 ?_
    rw [nI_1]
    refine V.p_Model_f19 (pc := 26) hB wf_X10_223 dX10_readsCommand_26 ?_
    rw [rdM_slot _ _ _ _ (by decide) (by decide)]
    refine V.aload_n (pc := 29) hB dX10_readsCommand_29 rfl ?_
    refine V.get (pc := 30) hB fk_Model 18 wf_X10_197 dX10_readsCommand_30 (by decide) (hp_at (ca_Model _)) rfl ?_
    rw [rdM_18]
    refine V.iconst (pc := 33) (v := (-1)) hB dX10_readsCommand_33 rfl ?_
    refine V.icmp_eq (pc := 34) (tgt := 38) hB dX10_readsCommand_34 (by decide) (fun c_34 => ?_) (fun c_34 => ?_)
    · exact absurd c_34 (nIk_ne (by have := khS_in (T := m.1 370) hpN 7; omega))
    · refine V.retV (pc := 37) hB dX10_readsCommand_37 rfl (by omega) (by omega) ?_
      exact Or.inl ⟨hk1, _, rfl, RQ.start m t (-1)⟩
  have yes : ∀ k : Nat, k < 7 → (khS (m.1 370) N p 7).2 = nI k → mtC (m.1 370) N p (stO k) (wlO k) 0 = wlO k → ∀ (sz : Nat), V g B 0 0 (QM g B 0 0 (rV (fun m2 => ((khS (m.1 370) N p 7).2 = -1 ∧ ∃ m1, m2 = rdM m1 p (nI (khS (m.1 370) N p 7).1) ∧ RQ m m1 t [-1]) ∨ ∃ k, k < 7 ∧ (khS (m.1 370) N p 7).2 = nI k ∧ mtC (m.1 370) N p (stO k) (wlO k) 0 = wlO k ∧ ∃ m1, m2 = rdM m1 (rdS (m.1 370) N (prt k) (p + wlO k, -1, [])).1 (rdS (m.1 370) N (prt k) (p + wlO k, -1, [])).2.1 ∧ RQ m m1 t (nI k :: (rdS (m.1 370) N (prt k) (p + wlO k, -1, [])).2.2))) noX) (hp g (rdM m (p + wlO k) (-1))) sz 11 [some (.ref (ad g 363)), some (.int (nI (4 * t))), none, none] [.int (nI k)] := by
    have kds : ∀ k : Nat, k < 7 → ∀ (m1 : Mem) (T : Nat → Int32) (p1 : Nat), (khS (m.1 370) N p 7).2 = nI k → mtC (m.1 370) N p (stO k) (wlO k) 0 = wlO k → T = m.1 370 → p1 = p + wlO k → p1 ≤ N → m1.1 370 = T → RQ m m1 t [nI k] → ∀ (sz : Nat), V g B 0 0 (QM g B 0 0 (rV (fun m2 => ((khS (m.1 370) N p 7).2 = -1 ∧ ∃ m1, m2 = rdM m1 p (nI (khS (m.1 370) N p 7).1) ∧ RQ m m1 t [-1]) ∨ ∃ k, k < 7 ∧ (khS (m.1 370) N p 7).2 = nI k ∧ mtC (m.1 370) N p (stO k) (wlO k) 0 = wlO k ∧ ∃ m1, m2 = rdM m1 (rdS (m.1 370) N (prt k) (p + wlO k, -1, [])).1 (rdS (m.1 370) N (prt k) (p + wlO k, -1, [])).2.1 ∧ RQ m m1 t (nI k :: (rdS (m.1 370) N (prt k) (p + wlO k, -1, [])).2.2))) noX) (hp g (rdM m1 p1 (-1))) sz 38 [some (.ref (ad g 363)), some (.int (nI (4 * t))), some (.int (nI k)), none] [] := by
      intro k hk7
      rcases (by omega : k = 0 ∨ k = 1 ∨ k = 2 ∨ k = 3 ∨ k = 4 ∨ k = 5 ∨ k = 6) with rfl | rfl | rfl | rfl | rfl | rfl | rfl
      · exact kd0
      · exact kd1
      · exact kd2
      · exact kd3
      · exact kd4
      · exact kd5
      · exact kd6
    intro k hk7 hks hmt sz
    have hpk : p + wlO k ≤ N := by have := mtC_N (T := m.1 370) (N := N) (p := p) (o := stO k) (wlO k) 0 hpN; omega
    have nx := fun sz => kds k hk7 (up (up m 372 (4 * t) (nI k)) 363 19 (nI (t + 1))) (m.1 370) (p + wlO k) hks hmt rfl rfl hpk (by rw [up_cell _ _ _ (by decide), up_cell _ _ _ (by decide)]) (RQ.start m t (nI k)) sz
    refine V.istore_n (pc := 11) hB dX10_readsCommand_11 (by decide) rfl ?_
    refine V.aload_n (pc := 12) hB dX10_readsCommand_12 rfl ?_
    refine V.get (pc := 13) hB fk_Model 20 wf_X10_41 dX10_readsCommand_13 (by decide) (hp_at (ca_Model _)) rfl ?_
    refine V.iload_n (pc := 16) hB dX10_readsCommand_16 rfl ?_
    refine V.iload_n (pc := 17) hB dX10_readsCommand_17 rfl ?_
    refine V.iastM (pc := 18) hB (ca_Nums) dX10_readsCommand_18 (ix_nI (by omega) (by decide)) (by decide) ?_
    rw [rdM_num _ _ _ _ (show 372 ≠ 363 by decide)]
    refine V.aload_n (pc := 19) hB dX10_readsCommand_19 rfl ?_
    refine V.dup (pc := 20) hB dX10_readsCommand_20 rfl ?_
    refine V.get (pc := 21) hB fk_Model 19 wf_X10_223 dX10_readsCommand_21 (by decide) (hp_at (ca_Model _)) rfl ?_
    rw [rdM_o _ _ _ (by decide) (by decide), up_cell _ _ _ (by decide), h19]
    refine V.iconst (pc := 24) (v := 1) hB dX10_readsCommand_24 rfl ?_
    refine V.iadd (pc := 25) hB dX10_readsCommand_25 ?_
    rw [nI_1]
    refine V.p_Model_f19 (pc := 26) hB wf_X10_223 dX10_readsCommand_26 ?_
    rw [rdM_slot _ _ _ _ (by decide) (by decide)]
    refine V.aload_n (pc := 29) hB dX10_readsCommand_29 rfl ?_
    refine V.get (pc := 30) hB fk_Model 18 wf_X10_197 dX10_readsCommand_30 (by decide) (hp_at (ca_Model _)) rfl ?_
    rw [rdM_18]
    refine V.iconst (pc := 33) (v := (-1)) hB dX10_readsCommand_33 rfl ?_
    refine V.icmp_eq (pc := 34) (tgt := 38) hB dX10_readsCommand_34 (by decide) (fun c_34 => ?_) (fun c_34 => ?_)
    · exact nx sz
    · exact absurd rfl c_34
  refine V.iconst (pc := 0) (v := 4) hB dX10_readsCommand_0 rfl ?_
  refine V.aload_n (pc := 1) hB dX10_readsCommand_1 rfl ?_
  refine V.get (pc := 2) hB fk_Model 19 wf_X10_223 dX10_readsCommand_2 (by decide) (hp_at (ca_Model _)) rfl ?_
  rw [rdM_o _ _ _ (by decide) (by decide), h19]
  refine V.imul (pc := 5) hB dX10_readsCommand_5 ?_
  rw [show (4 : Int32) * nI t = nI (4 * t) from mul4 t]
  refine V.istore_n (pc := 6) hB dX10_readsCommand_6 (by decide) rfl ?_
  refine V.aload_n (pc := 7) hB dX10_readsCommand_7 rfl ?_
  refine V.cv (pc := 8) hB cw_X10_kindHere wm_X10_226 wi_X10_kindHere ws_X10_kindHere dX10_readsCommand_8 (c_X10_kindHere hG hE h16 hN hpN) (hp_at (ca_Model _)) fk_Model rfl (by omega) (by decide) rfl (by exact Nat.le_of_ble_eq_true rfl) (by omega) (by omega) kN (kI (fun v_8 m_8 sz h_8 => ?_)) rfl
  obtain ⟨hv_8, hm_8⟩ := h_8
  rcases khS_found (T := m.1 370) (N := N) (p := p) 7 (by omega) with ⟨hk1, _⟩ | ⟨k, hk7, hks, hmt⟩
  · rw [if_pos hk1] at hm_8
    subst hm_8
    obtain rfl := hv_8.trans hk1
    exact no hk1 sz
  · rw [if_neg (by rw [hks]; exact nIk_ne (by omega)), hks, nI_clamp (by omega)] at hm_8
    subst hm_8
    obtain rfl := hv_8.trans hks
    exact yes k hk7 hks hmt sz
