/-! the reference's reading against the class's forms -/
def wdL (k : Nat) : List Int32 := (nmB.drop (stO k)).take (wlO k)
theorem wd_frm {k : Nat} (h : k < 7) : frm k = wdL k ++ prt k ∧ (wdL k).length = wlO k ∧ 4 ≤ wlO k ∧ (∀ c, c ∈ wdL k → c ≠ 68 ∧ c ≠ 78 ∧ c ≠ 84) ∧ (∀ j, j < wlO k → nmB.getD (stO k + j) 0 = (wdL k).getD j 0) ∧ (frm k).getD 0 0 = (wdL k).getD 0 0 := by
  rcases (by omega : k = 0 ∨ k = 1 ∨ k = 2 ∨ k = 3 ∨ k = 4 ∨ k = 5 ∨ k = 6) with rfl | rfl | rfl | rfl | rfl | rfl | rfl <;> decide
theorem frm_let {a b : Nat} (ha : a < 7) (hb : b < 7) (h : (frm a).getD 0 0 = (frm b).getD 0 0) : a = b := by
  have q : ∀ a, a < 7 → ∀ b, b < 7 → (frm a).getD 0 0 = (frm b).getD 0 0 → a = b := by decide
  exact q a ha b hb h
theorem mtB_st (T : Nat → Int32) (N p o k : Nat) : mtB T N p o k = stB T N (p + k) (nmB.getD (o + k) 0) := rfl
theorem mtC_spec {T : Nat → Int32} {N p o : Nat} : ∀ f k, (∀ j, k ≤ j → j < mtC T N p o f k → mtB T N p o j = true) ∧ (mtC T N p o f k < k + f → mtB T N p o (mtC T N p o f k) = false) ∧ k ≤ mtC T N p o f k
  | 0, k => ⟨fun j h1 h2 => absurd h2 (by show ¬ j < k; omega), fun h => absurd h (by show ¬ k < k + 0; omega), Nat.le_refl k⟩
  | f + 1, k => by
    have e : mtC T N p o (f + 1) k = if mtB T N p o k = true then mtC T N p o f (k + 1) else k := rfl
    obtain ⟨h1, h2, h3⟩ := mtC_spec (T := T) (N := N) (p := p) (o := o) f (k + 1)
    by_cases hb : mtB T N p o k = true
    · rw [if_pos hb] at e
      rw [e]
      refine ⟨fun j a b => ?_, fun h => h2 (by omega), by omega⟩
      by_cases ej : j = k
      · rw [ej]; exact hb
      · exact h1 j (by omega) b
    · rw [if_neg hb] at e
      rw [e]
      exact ⟨fun j a b => absurd b (by omega), fun _ => Bool.not_eq_true _ ▸ hb, Nat.le_refl k⟩
/-- the signs of a word, read as a form's parts -/
theorem form_word {T : Nat → Int32} {N : Nat} {r a : List Int32} : ∀ (l : List Int32) (p d : Nat), (∀ c, c ∈ l → c ≠ 68 ∧ c ≠ 78 ∧ c ≠ 84) → d ≤ l.length → (∀ j, j < d → stB T N (p + j) (l.getD j 0) = true) → (d = l.length → formS T N (l ++ r) (p, a) = formS T N r (p + d, a)) ∧ (d < l.length → stB T N (p + d) (l.getD d 0) = false → formS T N (l ++ r) (p, a) = (false, (p + d, a)))
  | [], p, d, _, hd, _ => by
    have : d = 0 := by have : d ≤ 0 := hd; omega
    subst this
    exact ⟨fun _ => rfl, fun h => absurd h (by show ¬ 0 < 0; omega)⟩
  | c :: l, p, d, hc, hd, hs => by
    obtain ⟨c1, c2, c3⟩ := hc c (List.mem_cons_self ..)
    have hp : partS T N c (p, a) = sgnS T N c (p, a) := by
      unfold partS
      rw [if_neg c1, if_neg c2, if_neg c3]
    have e : formS T N (c :: l ++ r) (p, a) = if (sgnS T N c (p, a)).1 = true then formS T N (l ++ r) (sgnS T N c (p, a)).2 else (false, (sgnS T N c (p, a)).2) := by rw [← hp]; rfl
    cases d with
    | zero =>
      refine ⟨fun h => absurd h (by show ¬ 0 = l.length + 1; omega), fun _ h => ?_⟩
      have h' : stB T N p c = false := h
      have : sgnS T N c (p, a) = (false, (p, a)) := by
        unfold sgnS
        rw [if_neg (by rw [h']; decide)]
      rw [e, this]
      rfl
    | succ d =>
      have h0 : stB T N p c = true := hs 0 (by omega)
      have : sgnS T N c (p, a) = (true, (p + 1, a)) := by
        unfold sgnS
        rw [if_pos h0]
      rw [this] at e
      have e2 : formS T N (c :: l ++ r) (p, a) = formS T N (l ++ r) (p + 1, a) := e
      obtain ⟨i1, i2⟩ := form_word (r := r) (a := a) l (p + 1) d (fun c h => hc c (List.mem_cons_of_mem _ h)) (by have : d + 1 ≤ l.length + 1 := hd; omega) (fun j hj => by
        have := hs (j + 1) (by omega)
        rw [show p + 1 + j = p + (j + 1) by omega]
        exact this)
      refine ⟨fun h => ?_, fun h h2 => ?_⟩
      · rw [e2, i1 (by have : d + 1 = l.length + 1 := h; omega), show p + 1 + d = p + (d + 1) by omega]
      · rw [e2, i2 (by have : d + 1 < l.length + 1 := h; omega) (by rw [show p + 1 + d = p + (d + 1) by omega]; exact h2), show p + 1 + d = p + (d + 1) by omega]
/-- the first letter says which kind -/
theorem kOf_let {T : Nat → Int32} {N p k : Nat} (hk : k < 7) (h : stB T N p ((frm k).getD 0 0) = true) : kOf T N p = k := by
  refine kOf_some hk (fun k' h' => ?_) h
  cases hb : stB T N p ((frm k').getD 0 0)
  · rfl
  · have e := frm_let (a := k') (b := k) (by omega) hk ((stB_lt hb).2.symm.trans (stB_lt h).2)
    omega
theorem mt_first {T : Nat → Int32} {N p k : Nat} (hk : k < 7) (h : 0 < mtC T N p (stO k) (wlO k) 0) : stB T N p ((frm k).getD 0 0) = true := by
  have h1 := (mtC_spec (T := T) (N := N) (p := p) (o := stO k) (wlO k) 0).1 0 (Nat.le_refl _) h
  obtain ⟨_, _, w4, _, w5, w6⟩ := wd_frm hk
  rw [w6, ← w5 0 (by omega)]
  exact h1
theorem mt_word {T : Nat → Int32} {N p k : Nat} (hk : k < 7) (a : List Int32) : (mtC T N p (stO k) (wlO k) 0 = wlO k → formS T N (frm k) (p, a) = formS T N (prt k) (p + wlO k, a)) ∧ (¬ mtC T N p (stO k) (wlO k) 0 = wlO k → formS T N (frm k) (p, a) = (false, (p + mtC T N p (stO k) (wlO k) 0, a))) := by
  obtain ⟨w1, w2, w4, w3, w5, w6⟩ := wd_frm hk
  obtain ⟨s1, s2, _⟩ := mtC_spec (T := T) (N := N) (p := p) (o := stO k) (wlO k) 0
  have hle := mtC_le (T := T) (N := N) (p := p) (o := stO k) (wlO k) 0
  obtain ⟨f1, f2⟩ := form_word (T := T) (N := N) (r := prt k) (a := a) (wdL k) p (mtC T N p (stO k) (wlO k) 0) w3 (by omega) (fun j hj => by
    rw [← w5 j (by omega)]
    exact s1 j (by omega) hj)
  rw [w1]
  refine ⟨fun h => ?_, fun h => ?_⟩
  · rw [f1 (by omega), h]
  · exact f2 (by omega) (by rw [← w5 _ (by omega)]; exact s2 (by omega))
theorem kh_some {T : Nat → Int32} {N p k : Nat} (hk : k < 7) (h : mtC T N p (stO k) (wlO k) 0 = wlO k) : kOf T N p = k ∧ formS T N (frm k) (p, []) = formS T N (prt k) (p + wlO k, []) :=
  ⟨kOf_let hk (mt_first hk (by have := (wd_frm hk).2.2.1; omega)), (mt_word hk []).1 h⟩
theorem khS_down {T : Nat → Int32} {N p w : Nat} (h : (khS T N p (w + 1)).2 = -1) : (khS T N p w).2 = -1 ∧ (khS T N p (w + 1)).1 = max (khS T N p w).1 (p + mtC T N p (stO w) (wlO w) 0) ∧ ¬ mtC T N p (stO w) (wlO w) 0 = wlO w ∨ 7 ≤ w := by
  by_cases hw : 7 ≤ w
  · exact Or.inr hw
  by_cases h1 : (khS T N p w).2 = -1
  · have e : khS T N p (w + 1) = (max (khS T N p w).1 (p + mtC T N p (stO w) (wlO w) 0), if mtC T N p (stO w) (wlO w) 0 = wlO w then nI w else -1) := if_pos h1
    refine Or.inl ⟨h1, by rw [e], fun z => ?_⟩
    rw [e, if_pos z] at h
    exact nIk_ne (by omega) h
  · rw [show khS T N p (w + 1) = khS T N p w from if_neg h1] at h
    exact absurd h h1
theorem khS_far {T : Nat → Int32} {N p D : Nat} : ∀ w, w ≤ 7 → (khS T N p w).2 = -1 → (∀ k, k < w → mtC T N p (stO k) (wlO k) 0 ≤ D) → p ≤ (khS T N p w).1 ∧ (khS T N p w).1 ≤ p + D ∧ (∀ k, k < w → p + mtC T N p (stO k) (wlO k) 0 ≤ (khS T N p w).1) ∧ ∀ k, k < w → ¬ mtC T N p (stO k) (wlO k) 0 = wlO k
  | 0, _, _, _ => ⟨Nat.le_refl _, Nat.le_add_right _ _, fun k h => absurd h (by omega), fun k h => absurd h (by omega)⟩
  | w + 1, hw, h, hD => by
    rcases khS_down h with ⟨h1, e, hn⟩ | h7
    · obtain ⟨i1, i2, i3, i4⟩ := khS_far w (by omega) h1 (fun k hk => hD k (by omega))
      have := hD w (by omega)
      rw [e]
      refine ⟨by omega, by omega, fun k hk => ?_, fun k hk => ?_⟩
      · by_cases ek : k = w
        · rw [ek]; omega
        · have := i3 k (by omega); omega
      · by_cases ek : k = w
        · rw [ek]; exact hn
        · exact i4 k (by omega)
    · omega
theorem kh_none {T : Nat → Int32} {N p : Nat} (h : (khS T N p 7).2 = -1) : (kOf T N p = 7 ∧ (khS T N p 7).1 = p) ∨ (kOf T N p < 7 ∧ formS T N (frm (kOf T N p)) (p, []) = (false, ((khS T N p 7).1, []))) := by
  by_cases hex : ∃ k, k < 7 ∧ stB T N p ((frm k).getD 0 0) = true
  · obtain ⟨k, hk, hs⟩ := hex
    have hko := kOf_let hk hs
    have hz : ∀ k', k' < 7 → ¬ k' = k → mtC T N p (stO k') (wlO k') 0 = 0 := fun k' hk' hne => by
      by_cases hp : 0 < mtC T N p (stO k') (wlO k') 0
      · exact absurd ((kOf_let hk' (mt_first hk' hp)).symm.trans hko) hne
      · omega
    obtain ⟨i1, i2, i3, i4⟩ := khS_far (D := mtC T N p (stO k) (wlO k) 0) 7 (by omega) h (fun k' hk' => by
      by_cases e : k' = k
      · rw [e]; omega
      · rw [hz k' hk' e]; omega)
    have := i3 k hk
    rw [hko]
    refine Or.inr ⟨hk, ?_⟩
    rw [(mt_word hk []).2 (i4 k hk), show (khS T N p 7).1 = p + mtC T N p (stO k) (wlO k) 0 by omega]
  · have hb : ∀ k, k < 7 → stB T N p ((frm k).getD 0 0) = false := fun k hk => by
      cases hb : stB T N p ((frm k).getD 0 0)
      · rfl
      · exact absurd ⟨k, hk, hb⟩ hex
    obtain ⟨i1, i2, _, _⟩ := khS_far (D := 0) 7 (by omega) h (fun k' hk' => by
      by_cases hp : 0 < mtC T N p (stO k') (wlO k') 0
      · exact absurd (mt_first hk' hp) (by rw [hb k' hk']; decide)
      · omega)
    exact Or.inl ⟨kOf_none hb, by omega⟩
/-! the parts -/
def rdC (T : Nat → Int32) (N : Nat) (c : Int32) (s : Nat × Int32 × List Int32) : Nat × Int32 × List Int32 := if c = 68 then (rdP T N s.1 48 57 s.2.1, rdW T N s.1 48 57 s.2.1, s.2.2 ++ [rdV T N s.1 48 57 s.2.1]) else if c = 78 then (nbP T N s.1 s.2.1, nbW T N s.1 s.2.1, s.2.2 ++ [nbV T N s.1 s.2.1]) else if c = 84 then (dgP T N s.1 s.2.1, dgW T N s.1 s.2.1, s.2.2 ++ [dgV T N s.1 s.2.1]) else (rdP T N s.1 c c s.2.1, rdW T N s.1 c c s.2.1, s.2.2)
theorem nb_num {T : Nat → Int32} {N p : Nat} (a : List Int32) (fac : Int32) : (0 < dgs T N 3 p → numS T N 3 fac (p, a) = (true, (nbP T N p (-1), a ++ [fac * nbV T N p (-1)])) ∧ nbW T N p (-1) = -1) ∧ (¬ 0 < dgs T N 3 p → (numS T N 3 fac (p, a)).1 = false ∧ (numS T N 3 fac (p, a)).2.1 = p ∧ nbW T N p (-1) = nI p) := by
  unfold numS nbP nbV nbW
  rw [if_pos rfl, if_pos rfl, if_pos rfl]
  refine ⟨fun h => ⟨by rw [decide_eq_true h], if_pos h⟩, fun h => ⟨decide_eq_false h, by show p + dgs T N 3 p = p; omega, if_neg h⟩⟩
theorem one_dg {T : Nat → Int32} {N p : Nat} : dgs T N 1 p = if isDg T N p = true then 1 else 0 := by
  show (if isDg T N p = true then 0 + 1 else 0) = _
  rfl
theorem rdB_st {T : Nat → Int32} {N p : Nat} {c : Int32} : rdB T N p c c = stB T N p c := by
  unfold rdB stB
  congr 1
  by_cases h : T p = c
  · rw [decide_eq_true h, decide_eq_true (by rw [h]; exact Int32.le_refl c), decide_eq_true (by rw [h]; exact Int32.le_refl c)]; rfl
  · rw [decide_eq_false h]
    cases h1 : decide (c ≤ T p)
    · rfl
    · cases h2 : decide (T p ≤ c)
      · rfl
      · exact absurd (Int32.le_antisymm (of_decide_eq_true h2) (of_decide_eq_true h1)) h
theorem part_num {T : Nat → Int32} {N most : Nat} {fac : Int32} {p : Nat} {a : List Int32} : (numS T N most fac (p, a)).2.2 = a ++ [fac * nmV T p (dgs T N most p)] := rfl
theorem part_rd {T : Nat → Int32} {N p : Nat} {a : List Int32} (c : Int32) : ((partS T N c (p, a)).1 = true → rdC T N c (p, -1, a) = ((partS T N c (p, a)).2.1, -1, (partS T N c (p, a)).2.2)) ∧ ((partS T N c (p, a)).1 = false → (rdC T N c (p, -1, a)).2.1 = nI (partS T N c (p, a)).2.1) := by
  unfold partS rdC
  by_cases h1 : c = 68
  · rw [if_pos h1, if_pos h1]
    unfold numS rdP rdW rdV
    rw [one_dg]
    dsimp only
    by_cases hb : isDg T N p = true
    · rw [if_pos hb, if_pos ⟨rfl, hb⟩, if_pos rfl, if_pos (show rdB T N p 48 57 = true from hb), if_pos ⟨rfl, hb⟩]
      refine ⟨fun _ => ?_, fun h => absurd h (by decide)⟩
      rw [show (1 : Int32) * nmV T p 1 = T p - 48 by show (1 : Int32) * (0 * 10 + (T (p + 0) - 48)) = _; rw [Int32.one_mul, Int32.zero_mul, Int32.zero_add, Nat.add_zero]]
    · rw [if_neg hb, if_neg (fun z => hb z.2), if_pos rfl, if_neg (show ¬ rdB T N p 48 57 = true from hb)]
      exact ⟨fun h => absurd h (by decide), fun _ => by rw [Nat.add_zero]⟩
  rw [if_neg h1, if_neg h1]
  by_cases h2 : c = 78
  · rw [if_pos h2, if_pos h2]
    obtain ⟨n1, n2⟩ := nb_num (T := T) (N := N) (p := p) a 1
    by_cases hd : 0 < dgs T N 3 p
    · obtain ⟨e, ew⟩ := n1 hd
      rw [e]
      refine ⟨fun _ => ?_, fun h => Bool.noConfusion h⟩
      show (nbP T N p (-1), nbW T N p (-1), a ++ [nbV T N p (-1)]) = _
      rw [ew, Int32.one_mul]
    · obtain ⟨e, ep, ew⟩ := n2 hd
      refine ⟨fun h => absurd h (by rw [e]; decide), fun _ => ?_⟩
      show nbW T N p (-1) = _
      rw [ew, ep]
  rw [if_neg h2, if_neg h2]
  by_cases h3 : c = 84
  · rw [if_pos h3, if_pos h3]
    have hdg : dgB T N p ↔ stB T N p 45 = true := by
      unfold dgB stB
      by_cases hpN : p < N
      · rw [if_pos hpN, decide_eq_true hpN, Bool.true_and]
        exact ⟨fun h => decide_eq_true h, fun h => of_decide_eq_true h⟩
      · rw [if_neg hpN, decide_eq_false hpN, Bool.false_and]
        exact ⟨fun h => absurd h (by decide), fun h => absurd h (by decide)⟩
    unfold dgP dgW dgV
    dsimp only
    by_cases hs : stB T N p 45 = true
    · rw [if_pos hs, if_pos (hdg.mpr hs), if_pos (hdg.mpr hs), if_pos (hdg.mpr hs)]
      have eP : rdP T N p 45 45 (-1) = p + 1 := if_pos ⟨rfl, rdB_st.trans hs⟩
      have eW : rdW T N p 45 45 (-1) = -1 := (if_pos rfl).trans (if_pos (rdB_st.trans hs))
      rw [eP, eW]
      obtain ⟨n1, n2⟩ := nb_num (T := T) (N := N) (p := p + 1) a (-1)
      by_cases hd : 0 < dgs T N 3 (p + 1)
      · obtain ⟨e, ew⟩ := n1 hd
        rw [e]
        refine ⟨fun _ => ?_, fun h => Bool.noConfusion h⟩
        show (nbP T N (p + 1) (-1), nbW T N (p + 1) (-1), a ++ [-(nbV T N (p + 1) (-1))]) = _
        rw [ew, Int32.neg_eq_neg_one_mul (nbV T N (p + 1) (-1))]
      · obtain ⟨e, ep, ew⟩ := n2 hd
        refine ⟨fun h => absurd h (by rw [e]; decide), fun _ => ?_⟩
        show nbW T N (p + 1) (-1) = _
        rw [ew, ep]
    · rw [if_neg hs, if_neg (fun z => hs (hdg.mp z)), if_neg (fun z => hs (hdg.mp z)), if_neg (fun z => hs (hdg.mp z))]
      obtain ⟨n1, n2⟩ := nb_num (T := T) (N := N) (p := p) a 1
      by_cases hd : 0 < dgs T N 3 p
      · obtain ⟨e, ew⟩ := n1 hd
        rw [e]
        refine ⟨fun _ => ?_, fun h => Bool.noConfusion h⟩
        show (nbP T N p (-1), nbW T N p (-1), a ++ [nbV T N p (-1)]) = _
        rw [ew, Int32.one_mul]
      · obtain ⟨e, ep, ew⟩ := n2 hd
        refine ⟨fun h => absurd h (by rw [e]; decide), fun _ => ?_⟩
        show nbW T N p (-1) = _
        rw [ew, ep]
  rw [if_neg h3, if_neg h3]
  unfold sgnS rdP rdW
  dsimp only
  rw [rdB_st]
  by_cases hs : stB T N p c = true
  · rw [if_pos hs, if_pos ⟨rfl, hs⟩, if_pos rfl, if_pos hs]
    exact ⟨fun _ => rfl, fun h => Bool.noConfusion h⟩
  · rw [if_neg hs, if_neg (fun z => hs z.2), if_pos rfl, if_neg hs]
    exact ⟨fun h => Bool.noConfusion h, fun _ => rfl⟩
theorem rdC_w {T : Nat → Int32} {N p : Nat} {w : Int32} {a : List Int32} (c : Int32) (hw : ¬ w = -1) : (rdC T N c (p, w, a)).2.1 = w := by
  unfold rdC
  dsimp only
  split
  · exact if_neg hw
  split
  · exact if_neg hw
  split
  · show (if dgB T N p then nbW T N (rdP T N p 45 45 w) (rdW T N p 45 45 w) else nbW T N p w) = w
    rw [show rdW T N p 45 45 w = w from if_neg hw]
    split <;> exact if_neg hw
  · exact if_neg hw
theorem rdS_w {T : Nat → Int32} {N : Nat} : ∀ (l : List Int32) (s : Nat × Int32 × List Int32), ¬ s.2.1 = -1 → (rdS T N l s).2.1 = s.2.1
  | [], s, _ => rfl
  | c :: l, (p, w, a), h => by
    have e := rdC_w (T := T) (N := N) (p := p) (a := a) c h
    show (rdS T N l (rdC T N c (p, w, a))).2.1 = w
    rw [rdS_w l _ (by rw [e]; exact h), e]
theorem dgs_adv {T : Nat → Int32} {N : Nat} {c : Int32} {s : PS} (hp : s.1 ≤ N) : ((partS T N c s).1 = true → s.1 + 1 ≤ (partS T N c s).2.1) ∧ (partS T N c s).2.1 ≤ N := by
  unfold partS
  split
  · exact ⟨fun h => by have : 0 < dgs T N 1 s.1 := of_decide_eq_true h; show s.1 + 1 ≤ s.1 + dgs T N 1 s.1; omega, dgs_N hp⟩
  split
  · exact ⟨fun h => by have : 0 < dgs T N 3 s.1 := of_decide_eq_true h; show s.1 + 1 ≤ s.1 + dgs T N 3 s.1; omega, dgs_N hp⟩
  split
  · split
    · rename_i hs
      have := (stB_lt hs).1
      exact ⟨fun h => by show s.1 + 1 ≤ s.1 + 1 + dgs T N 3 (s.1 + 1); omega, dgs_N (by show s.1 + 1 ≤ N; omega)⟩
    · exact ⟨fun h => by have : 0 < dgs T N 3 s.1 := of_decide_eq_true h; show s.1 + 1 ≤ s.1 + dgs T N 3 s.1; omega, dgs_N hp⟩
  · unfold sgnS
    split
    · rename_i hs
      have := (stB_lt hs).1
      exact ⟨fun _ => Nat.le_refl _, by show s.1 + 1 ≤ N; omega⟩
    · exact ⟨fun h => Bool.noConfusion h, hp⟩
theorem formS_adv {T : Nat → Int32} {N : Nat} : ∀ (l : List Int32) (s : PS), s.1 ≤ N → ((formS T N l s).1 = true → s.1 + l.length ≤ (formS T N l s).2.1) ∧ (formS T N l s).2.1 ≤ N
  | [], s, h => ⟨fun _ => Nat.le_refl _, h⟩
  | c :: l, s, h => by
    obtain ⟨a1, a2⟩ := dgs_adv (T := T) (N := N) (c := c) h
    have e : formS T N (c :: l) s = if (partS T N c s).1 = true then formS T N l (partS T N c s).2 else (false, (partS T N c s).2) := rfl
    by_cases hb : (partS T N c s).1 = true
    · rw [if_pos hb] at e
      rw [e]
      obtain ⟨i1, i2⟩ := formS_adv l (partS T N c s).2 a2
      exact ⟨fun h => by have := i1 h; have := a1 hb; rw [List.length_cons]; omega, i2⟩
    · rw [if_neg hb] at e
      rw [e]
      exact ⟨fun h => Bool.noConfusion h, a2⟩
theorem form_rd {T : Nat → Int32} {N : Nat} (hN : N ≤ 60) : ∀ (l : List Int32) (p : Nat) (a : List Int32), p ≤ N → ((formS T N l (p, a)).1 = true → rdS T N l (p, -1, a) = ((formS T N l (p, a)).2.1, -1, (formS T N l (p, a)).2.2)) ∧ ((formS T N l (p, a)).1 = false → (rdS T N l (p, -1, a)).2.1 = nI (formS T N l (p, a)).2.1)
  | [], p, a, _ => ⟨fun _ => rfl, fun h => Bool.noConfusion h⟩
  | c :: l, p, a, h => by
    obtain ⟨a1, a2⟩ := dgs_adv (T := T) (N := N) (c := c) (s := (p, a)) h
    obtain ⟨r1, r2⟩ := part_rd (T := T) (N := N) (p := p) (a := a) c
    have e : formS T N (c :: l) (p, a) = if (partS T N c (p, a)).1 = true then formS T N l (partS T N c (p, a)).2 else (false, (partS T N c (p, a)).2) := rfl
    have e2 : rdS T N (c :: l) (p, -1, a) = rdS T N l (rdC T N c (p, -1, a)) := rfl
    cases hb : (partS T N c (p, a)).1
    · rw [if_neg (by rw [hb]; decide)] at e
      rw [e, e2]
      refine ⟨fun h => Bool.noConfusion h, fun _ => ?_⟩
      have hw := r2 hb
      rw [rdS_w l _ (by rw [hw]; exact nIk_ne (by omega)), hw]
    · rw [if_pos hb] at e
      rw [e, e2, r1 hb]
      exact form_rd hN l _ _ a2
