/-! the law's check of one lake: a layer's text -/
theorem fit_b : ∀ c, c < 128 → fits .byte (.int (nI c)) = true := by decide
theorem hp_mono {g : xG} {E E' : xH} {c : Nat} {m : Mem} (h : ∀ (q : Nat) (e : va_E), E q = some e → E' q = some e) : ∀ (q : Nat) (e : va_E), hp (gx g E c) m q = some e → hp (gx g E' c) m q = some e := by
  intro q e he
  unfold hp at he ⊢
  by_cases h1 : q < (gx g E c).1.heap.size
  · rw [if_pos h1] at he; cases he
  · rw [if_neg h1] at he
    rw [if_neg (show ¬ q < (gx g E' c).1.heap.size from h1)]
    rw [show cellAt (gx g E' c) m (q - (gx g E' c).1.heap.size) = cellAt (gx g E c) m (q - (gx g E c).1.heap.size) from rfl]
    cases e1 : cellAt (gx g E c) m (q - (gx g E c).1.heap.size) with
    | some x => rw [e1] at he; exact he
    | none =>
      rw [e1] at he
      dsimp only at he ⊢
      by_cases h2 : q - (gx g E c).1.heap.size = m.2.1
      · rw [if_pos h2] at he
        rw [if_pos (show q - (gx g E' c).1.heap.size = m.2.1 from h2)]
        exact he
      · rw [if_neg h2] at he
        rw [if_neg (show ¬ q - (gx g E' c).1.heap.size = m.2.1 from h2)]
        exact h q e he
def strE (g : xG) (a n : Nat) (t : List Int32) : xH := hx (hx (fun _ => none) a (.inr (8, [.ref (a + 1), .int 0, .int 0, .int 0]))) (a + 1) (.inl (g.2.2.1 4, n, .inl (fun j => t.getD j 0)))
theorem strE_ts {g : xG} {m : Mem} {a : Nat} {t : List Int32} (h1 : g.1.heap.size + 363 ≤ a) (h2 : ad g m.2.1 < a) (hl : t.length ≤ 100) (hok : okL t = true) : TS g (strE g a t.length t) m a (a + 1) t := by
  refine ⟨fun q e he => ?_, rfl, hl, fun j hj => ?_, Or.inr ⟨⟨.int 0, .int 0, (hx_ne _ _ (by omega)).trans (hx_at _ _ _)⟩, hx_at _ _ _⟩⟩
  · unfold strE hx at he
    by_cases e1 : q = a + 1
    · exact ⟨by omega, by omega⟩
    · rw [if_neg e1] at he
      by_cases e2 : q = a
      · exact ⟨by omega, by omega⟩
      · rw [if_neg e2] at he; cases he
  · obtain ⟨c, hc, e⟩ := okL_at hok j hj
    rw [e]
    exact ⟨fit_b c hc, ch_b c hc⟩

set_option maxRecDepth 100000 in
set_option maxHeartbeats 4000000 in
theorem isl_c {g : xG} (hG : GK g) {z : xE} (hE : GE g z) {B : BT} {Q : State → Prop} {ret : Option FieldType} {mc ms k n : Nat} (hB : Bd g B cL_isLakeRight 10 RL ret 10 mc ms) {m : Mem} (hI : CI m) (hX : XL m 0) {q : Nat} (hq : q < nLk m 0) (hM : cellAt g m m.2.1 = none) (hSB : SB (m.1 (LK 0 q + 3)) (nLy m 0 q) 34) {y : Nat} (hy : y < nLy m 0 q) {E : xH} {a w : Nat} (hTS : TS g E m a w (lnT (m.1 (LK 0 q + 1)) (m.1 (LK 0 q + 2)) (m.1 (LK 0 q + 3)) y)) (hc : k + 12 ≤ mc) (hs : n + 1500 ≤ ms) {sz : Nat} (kk : ∀ (E2 : xH) (a2 w2 sz : Nat), TS g E2 m a2 w2 (lnT (m.1 (LK 0 q + 1)) (m.1 (LK 0 q + 2)) (m.1 (LK 0 q + 3)) (y + 1)) → V g B (k + 12) (n + 1500) Q (hp (gx g E2 0) m) sz 84 [some (.ref (ad g 0)), some (.int (nI q)), some (.int (nI (nLy m 0 q))), some (.int (l_sum (m.1 (LK 0 q + 1)) (y + 1))), some (.int (l_sum (m.1 (LK 0 q + 2)) (y + 1))), some (.ref a2), some (.int 1), some (.int (nI (y + 1))), some (.int (m.1 (LK 0 q + 1) y)), some (.int (m.1 (LK 0 q + 2) y))] []) : V g B k n Q (hp (gx g E 0) m) sz 210 [some (.ref (ad g 0)), some (.int (nI q)), some (.int (nI (nLy m 0 q))), some (.int (l_sum (m.1 (LK 0 q + 1)) y)), some (.int (l_sum (m.1 (LK 0 q + 2)) y)), some (.ref a), some (.int 1), some (.int (nI y)), some (.int (m.1 (LK 0 q + 1) y)), some (.int (m.1 (LK 0 q + 2) y))] [] := by
  have h5 := hI.1.nl5
  have h8 := (hI.1.ln hq).2
  have hvb := hX.1.1 q hq
  have eq9 : (nI q).toNatClampNeg = q := nI_clamp (by omega)
  obtain ⟨s9, hs8, hs9⟩ := hSB y hy
  obtain ⟨ka, hka, hkv⟩ := hvb.k hy
  obtain ⟨ta, hta, htv⟩ := hvb.t hy
  have hk3 := txt_len hka hkv
  have ht3 := txt_len hta htv
  have hlen : (lnT (m.1 (LK 0 q + 1)) (m.1 (LK 0 q + 2)) (m.1 (LK 0 q + 3)) y).length ≤ 9 * y := lnT_len hvb y (by omega)
  have hokT : okL (lnT (m.1 (LK 0 q + 1)) (m.1 (LK 0 q + 2)) (m.1 (LK 0 q + 3)) (y + 1)) = true := lnT_ok hvb (y + 1) (by omega)
  have hlen1 : (lnT (m.1 (LK 0 q + 1)) (m.1 (LK 0 q + 2)) (m.1 (LK 0 q + 3)) (y + 1)).length ≤ 9 * (y + 1) := lnT_len hvb (y + 1) (by omega)
  obtain ⟨tx0, hst0⟩ := hE.strR (i := 0) (by decide)
  obtain ⟨tx1, hst1⟩ := hE.strR (i := 1) (by decide)
  obtain ⟨tx2, hst2⟩ := hE.strR (i := 2) (by decide)
  obtain ⟨tx3, hst3⟩ := hE.strR (i := 3) (by decide)
  refine V.iload_n (pc := 210) hB dL_isLakeRight_210 rfl ?_
  refine V.iload (pc := 211) hB dL_isLakeRight_211 rfl ?_
  refine V.iadd (pc := 213) hB dL_isLakeRight_213 ?_
  refine V.istore_n (pc := 214) hB dL_isLakeRight_214 (by decide) rfl ?_
  refine V.iload (pc := 215) hB dL_isLakeRight_215 rfl ?_
  refine V.iload (pc := 217) hB dL_isLakeRight_217 rfl ?_
  refine V.iadd (pc := 219) hB dL_isLakeRight_219 ?_
  refine V.istore (pc := 220) hB dL_isLakeRight_220 (by decide) rfl ?_
  refine V.toG (E := E) (b := 0) (V.fresh (g := gx g E 0) hB.gx (show cellAt (gx g E 0) m m.2.1 = none from hM) (fun h1 h2 h3 => V.ug ?_))
  have h1 : g.1.heap.size + 363 ≤ sz := h1
  have h2 : ad g m.2.1 < sz := h2
  refine V.newo (pc := 222) hB fk_SB wc_L_163 wib_J4 wn_J4 (fs := [.null, .int 0, .int 0, .int 0]) (fun j hj => by
    match j, hj with
    | 0, _ => rfl
    | 1, _ => rfl
    | 2, _ => rfl
    | 3, _ => rfl) (by omega) (by omega) dL_isLakeRight_222 ?_
  refine V.dup (pc := 225) hB dL_isLakeRight_225 rfl ?_
  refine V.eqh (px_1 _ _ _) ?_
  refine V.callI (pc := 226) (av := []) hB cw_J4_init_da8c8 wm_L_165 rfl wi_J4_init_da8c8 dL_isLakeRight_226 (d' := 4) (by omega) (by decide) (ct_J4_init_da8c8 hG hE) noH_no rfl (by exact Nat.le_of_ble_eq_true rfl) (by omega) (by omega) (fun v9 h9 sz9 hq9 => ?_) rfl
  obtain ⟨rfl, rfl, rfl⟩ := hq9
  refine V.eqh (px_hbx _ _) ?_
  have hFRb : FR g m sz := FR.far h1 (by omega)
  have hH0 : HB g (hp (gx g E 0) m) sz (sz + 1) ([] : List Int32).length 16 (fun _ => 0) := ⟨h3 _ (Nat.le_refl _), h3 _ (by omega), by omega, by omega, by omega, by decide, by decide, fun _ _ => rfl, fun q9 hq9 => hp_low (g := gx g E 0) hq9⟩
  -- from the last append on
  have k286 : ∀ (T9 : List Int32) (_ : T9 = lnT (m.1 (LK 0 q + 1)) (m.1 (LK 0 q + 2)) (m.1 (LK 0 q + 3)) (y + 1)) (v cap : Nat) (f : Nat → Int32) (x2 : Int32) (sz2 : Nat), HB g (hp (gx g E 0) m) sz v (T9).length cap f → TZ f (T9) → V g B (k + 10) (n + 1232) Q (hbx g (hp (gx g E 0) m) sz v (T9).length cap f x2) sz2 286 [some (.ref (ad g 0)), some (.int (nI q)), some (.int (nI (nLy m 0 q))), some (.int (l_sum (m.1 (LK 0 q + 1)) (y + 1))), some (.int (l_sum (m.1 (LK 0 q + 2)) (y + 1))), some (.ref a), some (.int 1), some (.int (nI y)), some (.int (m.1 (LK 0 q + 1) y)), some (.int (m.1 (LK 0 q + 2) y))] [.ref sz] := by
    intro T9 hT9 v cap f x2 sz2 hH hT
    refine V.bound hB ((hbx_sb (x2 := x2) hH).1.choose_spec) (fun hb9 _ => ?_)
    refine V.callV (pc := 286) (av := []) hB cw_J4_toString_0e30d wm_L_179 wi_J4_toString_0e30d ws_J4_toString_0e30d dL_isLakeRight_286 (by omega) (by decide) (t_J4_toString hG hE (hbx_sb hH)) ((hbx_sb (x2 := x2) hH).1.choose_spec) rfl rfl (by exact Nat.le_of_ble_eq_true rfl) (by omega) (by omega) (fun _ _ _ hf => hf.elim) (fun v9 h9 sz9 hr => ?_) rfl
    obtain ⟨rfl, rfl, F9, hF9, hNS⟩ := hr
    have hNS2 : h9 = hx (hx (hbx g (hp (gx g E 0) m) sz v T9.length cap f x2) sz2 (.inr (8, [.ref (sz2 + 1), .int 0, .int 0, .int 0]))) (sz2 + 1) (.inl (g.2.2.1 4, T9.length, .inl F9)) := hNS
    subst hNS2
    refine V.row (F' := fun j => T9.getD j 0) (fun j hj => (hF9 j hj).trans (hT j hj)) ?_
    have hA : FR g m sz2 := FR.far (by omega) (by omega)
    have hW : FR g m (sz2 + 1) := FR.far (by omega) (by omega)
    have hFRv : FR g m v := FR.of (g := gx g E 0) (m := m) hH.2.2.2.2.1 hH.2.1
    refine V.sub (h' := hp (gx g (strE g sz2 T9.length T9) 0) m) (fun q9 e9 he9 => ?_) (fun _ _ h => h) ?_
    · unfold strE at he9
      rw [← hp_hx hW, ← hp_hx hA] at he9
      by_cases e1 : q9 = sz2 + 1
      · subst e1; rw [hx_at] at he9 ⊢; exact he9
      · rw [hx_ne _ _ e1] at he9 ⊢
        by_cases e2 : q9 = sz2
        · subst e2; rw [hx_at] at he9 ⊢; exact he9
        · rw [hx_ne _ _ e2] at he9 ⊢
          have hno : ∀ b9, FR g m b9 → ¬ q9 = b9 := fun b9 hb z9 => by
            subst z9
            rw [FR.pic (g := gx g (fun _ => none) 0) hb] at he9
            cases he9
          unfold hbx
          rw [hx_ne _ _ (hno _ hFRv), hx_ne _ _ (hno _ hFRb)]
          exact hp_mono (fun _ _ h => by cases h) q9 e9 he9
    refine V.astore (pc := 289) hB dL_isLakeRight_289 (by decide) rfl ?_
    refine V.iinc (pc := 291) (v := nI (y + 1)) hB dL_isLakeRight_291 rfl (nI_1 _) (by decide) rfl ?_
    refine V.goto (pc := 294) (tgt := 84) hB dL_isLakeRight_294 (by decide) ?_
    have hts : ∀ T8, T8 = T9 → TS g (strE g sz2 T9.length T9) m sz2 (sz2 + 1) T8 := fun T8 e8 => by
      subst e8
      exact strE_ts (by omega) (by omega) (by rw [hT9]; omega) (by rw [hT9]; exact hokT)
    exact V.wid (by omega) (by omega) (kk _ _ _ _ (hts _ hT9.symm))
  have k249 : ∀ (sp : List Int32) (_ : sp = (if y = 0 then [] else [32])) (v cap : Nat) (f : Nat → Int32) (x2 : Int32) (sz2 : Nat), HB g (hp (gx g E 0) m) sz v (lnT (m.1 (LK 0 q + 1)) (m.1 (LK 0 q + 2)) (m.1 (LK 0 q + 3)) y ++ sp).length cap f → TZ f (lnT (m.1 (LK 0 q + 1)) (m.1 (LK 0 q + 2)) (m.1 (LK 0 q + 3)) y ++ sp) → V g B (k + 4) (n + 420) Q (hbx g (hp (gx g E 0) m) sz v (lnT (m.1 (LK 0 q + 1)) (m.1 (LK 0 q + 2)) (m.1 (LK 0 q + 3)) y ++ sp).length cap f x2) sz2 249 [some (.ref (ad g 0)), some (.int (nI q)), some (.int (nI (nLy m 0 q))), some (.int (l_sum (m.1 (LK 0 q + 1)) (y + 1))), some (.int (l_sum (m.1 (LK 0 q + 2)) (y + 1))), some (.ref a), some (.int 1), some (.int (nI y)), some (.int (m.1 (LK 0 q + 1) y)), some (.int (m.1 (LK 0 q + 2) y))] [.ref sz] := by
    intro sp hsp v cap f x2 sz2 hH hT
    have hsl : sp.length ≤ 1 := by rw [hsp]; split <;> decide
    refine V.iload (pc := 249) hB dL_isLakeRight_249 rfl ?_
    refine V.appI (pc := 251) hG hE hB wm_L_172 dL_isLakeRight_251 hH hT (by rw [List.length_append]; omega) hka hkv (by omega) (by exact Nat.le_of_ble_eq_true rfl) (by omega) (by omega) (fun v2 cap2 f2 x22 sz3 hH hT => ?_)
    refine V.ldcS (pc := 254) (idx := 175) (q := z 12) hB hst2 dL_isLakeRight_254 ?_
    refine V.appS (pc := 256) hG hE hB wm_L_166 dL_isLakeRight_256 hH hT (by rw [show lst 2 = [47] from rfl]; simp only [List.length_append, List.length_cons, List.length_nil]; omega) (GE.sx (i := 2) hE (by decide)) (by omega) (by exact Nat.le_of_ble_eq_true rfl) (by omega) (by omega) (fun v2 cap2 f2 x22 sz3 hH hT => ?_)
    refine V.iload (pc := 259) hB dL_isLakeRight_259 rfl ?_
    refine V.appI (pc := 261) hG hE hB wm_L_172 dL_isLakeRight_261 hH hT (by rw [show lst 2 = [47] from rfl]; simp only [List.length_append, List.length_cons, List.length_nil]; omega) hta htv (by omega) (by exact Nat.le_of_ble_eq_true rfl) (by omega) (by omega) (fun v2 cap2 f2 x22 sz3 hH hT => ?_)
    refine V.aload_n (pc := 264) hB dL_isLakeRight_264 rfl ?_
    refine V.iload_n (pc := 265) hB dL_isLakeRight_265 rfl ?_
    refine V.iload (pc := 266) hB dL_isLakeRight_266 rfl ?_
    have hFRv : FR g m v2 := FR.of (g := gx g E 0) (m := m) hH.2.2.2.2.1 hH.2.1
    refine V.eqh (hbx_hp hFRb hFRv) (V.toG (E := hbx g E sz v2 (lnT (m.1 (LK 0 q + 1)) (m.1 (LK 0 q + 2)) (m.1 (LK 0 q + 3)) y ++ sp ++ txtI (m.1 (LK 0 q + 1) y) ++ lst 2 ++ txtI (m.1 (LK 0 q + 2) y)).length cap2 f2 x22) (b := 0) ?_)
    refine V.cv (pc := 268) (g := gx g (hbx g E sz v2 (lnT (m.1 (LK 0 q + 1)) (m.1 (LK 0 q + 2)) (m.1 (LK 0 q + 3)) y ++ sp ++ txtI (m.1 (LK 0 q + 1) y) ++ lst 2 ++ txtI (m.1 (LK 0 q + 2) y)).length cap2 f2 x22) 0) (a := ad g 0) hB.gx cw_X9_strain wm_L_139 wi_X9_strain ws_X9_strain dL_isLakeRight_268 (r_strain (g := gx g (hbx g E sz v2 (lnT (m.1 (LK 0 q + 1)) (m.1 (LK 0 q + 2)) (m.1 (LK 0 q + 3)) y ++ sp ++ txtI (m.1 (LK 0 q + 1) y) ++ lst 2 ++ txtI (m.1 (LK 0 q + 2) y)).length cap2 f2 x22) 0) hG hI hq hy) (hp_at (g := gx g (hbx g E sz v2 (lnT (m.1 (LK 0 q + 1)) (m.1 (LK 0 q + 2)) (m.1 (LK 0 q + 3)) y ++ sp ++ txtI (m.1 (LK 0 q + 1) y) ++ lst 2 ++ txtI (m.1 (LK 0 q + 2) y)).length cap2 f2 x22) 0) (ca_Bells _)) fk_Bells rfl (by omega) (by decide) rfl (by exact Nat.le_of_ble_eq_true rfl) (by omega) (by omega) kN (kI (fun v_268 m_268 sz4 h_268 => ?_)) rfl
    obtain ⟨rfl, hm_268⟩ := h_268
    rw [hm_268]
    refine V.ug (V.eqh (hbx_hp hFRb hFRv).symm ?_)
    refine V.bipush (pc := 271) (v := 9) hB dL_isLakeRight_271 rfl ?_
    have hln : (lnT (m.1 (LK 0 q + 1)) (m.1 (LK 0 q + 2)) (m.1 (LK 0 q + 3)) y ++ sp ++ txtI (m.1 (LK 0 q + 1) y) ++ lst 2 ++ txtI (m.1 (LK 0 q + 2) y)).length ≤ 9 * y + 8 := by
      rw [show lst 2 = [47] from rfl]
      simp only [List.length_append, List.length_cons, List.length_nil]
      omega
    have hend : ∀ mk : List Int32, mk = (if 10 ≤ m.1 (LK 0 q + 3) y then [33] else []) → lnT (m.1 (LK 0 q + 1)) (m.1 (LK 0 q + 2)) (m.1 (LK 0 q + 3)) y ++ sp ++ txtI (m.1 (LK 0 q + 1) y) ++ lst 2 ++ txtI (m.1 (LK 0 q + 2) y) ++ mk = lnT (m.1 (LK 0 q + 1)) (m.1 (LK 0 q + 2)) (m.1 (LK 0 q + 3)) (y + 1) := fun mk hmk => by
      subst hmk hsp
      show _ = lnT (m.1 (LK 0 q + 1)) (m.1 (LK 0 q + 2)) (m.1 (LK 0 q + 3)) y ++ lyT (m.1 (LK 0 q + 1)) (m.1 (LK 0 q + 2)) (m.1 (LK 0 q + 3)) y
      unfold lyT
      rw [show lst 2 = [47] from rfl]
      simp only [List.append_assoc]
    refine V.icmp_le (pc := 273) (tgt := 281) hB dL_isLakeRight_273 (by decide) (fun c_273 => ?_) (fun c_273 => ?_)
    · refine V.ldcS (pc := 281) (idx := 158) (q := z 10) hB hst0 dL_isLakeRight_281 ?_
      refine V.appS (pc := 283) hG hE hB wm_L_166 dL_isLakeRight_283 hH hT (by rw [show (lst 0).length = 0 from rfl]; omega) (GE.sx (i := 0) hE (by decide)) (by omega) (by exact Nat.le_of_ble_eq_true rfl) (by omega) (by omega) (fun v2 cap2 f2 x22 sz3 hH hT => ?_)
      exact V.wid (by omega) (by omega) (k286 _ (hend (lst 0) (if_neg (fun z9 => by
        rw [hs9] at c_273 z9
        exact absurd ((nI_leI (a := 10) (by decide) (by omega)).mp z9) (by have := (nI_leI (b := 9) (by omega) (by decide)).mp c_273; omega))).symm) _ _ _ _ _ hH hT)
    · refine V.ldcS (pc := 276) (idx := 177) (q := z 13) hB hst3 dL_isLakeRight_276 ?_
      refine V.goto (pc := 278) (tgt := 283) hB dL_isLakeRight_278 (by decide) ?_
      refine V.appS (pc := 283) hG hE hB wm_L_166 dL_isLakeRight_283 hH hT (by rw [show (lst 3).length = 1 from rfl]; omega) (GE.sx (i := 3) hE (by decide)) (by omega) (by exact Nat.le_of_ble_eq_true rfl) (by omega) (by omega) (fun v2 cap2 f2 x22 sz3 hH hT => ?_)
      exact V.wid (by omega) (by omega) (k286 _ (hend (lst 3) (if_pos (by
        rw [hs9] at c_273 ⊢
        exact (nI_leI (a := 10) (by decide) (by omega)).mpr (Nat.not_le.mp (fun z9 => c_273 ((nI_leI (b := 9) (by omega) (by decide)).mpr z9))))).symm) _ _ _ _ _ hH hT)
  have hT0 : TZ (fun _ => 0) ([] : List Int32) := fun j hj => absurd hj (Nat.not_lt_zero _)
  have k234 : ∀ (v cap : Nat) (f : Nat → Int32) (x2 : Int32) (sz2 : Nat), HB g (hp (gx g E 0) m) sz v (lnT (m.1 (LK 0 q + 1)) (m.1 (LK 0 q + 2)) (m.1 (LK 0 q + 3)) y).length cap f → TZ f (lnT (m.1 (LK 0 q + 1)) (m.1 (LK 0 q + 2)) (m.1 (LK 0 q + 3)) y) → V g B (k + 3) (n + 220) Q (hbx g (hp (gx g E 0) m) sz v (lnT (m.1 (LK 0 q + 1)) (m.1 (LK 0 q + 2)) (m.1 (LK 0 q + 3)) y).length cap f x2) sz2 234 [some (.ref (ad g 0)), some (.int (nI q)), some (.int (nI (nLy m 0 q))), some (.int (l_sum (m.1 (LK 0 q + 1)) (y + 1))), some (.int (l_sum (m.1 (LK 0 q + 2)) (y + 1))), some (.ref a), some (.int 1), some (.int (nI y)), some (.int (m.1 (LK 0 q + 1) y)), some (.int (m.1 (LK 0 q + 2) y))] [.ref sz] := by
    intro v cap f x2 sz2 hH hT
    refine V.iload (pc := 234) hB dL_isLakeRight_234 rfl ?_
    refine V.if_ne (pc := 236) (tgt := 244) hB dL_isLakeRight_236 (by decide) (fun c_236 => ?_) (fun c_236 => ?_)
    · refine V.ldcS (pc := 244) (idx := 170) (q := z 11) hB hst1 dL_isLakeRight_244 ?_
      refine V.appS (pc := 246) hG hE hB wm_L_166 dL_isLakeRight_246 hH hT (by rw [show (lst 1).length = 1 from rfl]; omega) (GE.sx (i := 1) hE (by decide)) (by omega) (by exact Nat.le_of_ble_eq_true rfl) (by omega) (by omega) (fun v2 cap2 f2 x22 sz3 hH hT => ?_)
      exact V.wid (by omega) (by omega) (k249 (lst 1) (if_neg (fun z9 => c_236 (by rw [z9]; rfl))).symm _ _ _ _ _ hH hT)
    · refine V.ldcS (pc := 239) (idx := 158) (q := z 10) hB hst0 dL_isLakeRight_239 ?_
      refine V.goto (pc := 241) (tgt := 246) hB dL_isLakeRight_241 (by decide) ?_
      refine V.appS (pc := 246) hG hE hB wm_L_166 dL_isLakeRight_246 hH hT (by rw [show (lst 0).length = 0 from rfl]; omega) (GE.sx (i := 0) hE (by decide)) (by omega) (by exact Nat.le_of_ble_eq_true rfl) (by omega) (by omega) (fun v2 cap2 f2 x22 sz3 hH hT => ?_)
      exact V.wid (by omega) (by omega) (k249 (lst 0) (if_pos ((nI_eq (b := 0) (by omega) (by decide)).mp c_236)).symm _ _ _ _ _ hH hT)
  refine V.aload (pc := 229) hB dL_isLakeRight_229 rfl ?_
  refine V.appS (pc := 231) (t := []) hG hE hB wm_L_166 dL_isLakeRight_231 hH0 hT0 (by show 0 + _ ≤ 90; omega) hTS.sx (by omega) (by exact Nat.le_of_ble_eq_true rfl) (by omega) (by omega) (fun v2 cap2 f2 x22 sz3 hH hT => ?_)
  exact V.wid (by omega) (by omega) (k234 _ _ _ _ _ hH hT)

