/-! the invariant of the law's loop -/
theorem two_cpLks (i i2 : Nat) (m : Mem) : ∀ q, (cpLks i i2 m q).2 = m.2
  | 0 => rfl
  | q + 1 => two_cpLks i i2 m q
theorem two_cpLand (i i2 : Nat) (m : Mem) : (cpLand i i2 m).2 = m.2 := two_cpLks i i2 m _
theorem two_rem (m : Mem) : (rem m).2 = m.2 := two_cpLand _ _ m
theorem two_undo (m : Mem) : (undoM m).2 = m.2 := two_cpLand _ _ _
theorem two_save (m : Mem) : (saveM m).2 = m.2 := two_cpLand _ _ _
theorem two_rest (m : Mem) : (restM m).2 = m.2 := two_cpLand _ _ _
theorem two_push (i j N : Nat) (x : Int32) (m : Mem) : (pushM i j N x m).2 = m.2 := by unfold pushM; split <;> rfl
theorem two_ck (num hr : Int32) (i j N : Nat) (m : Mem) : ∀ q, (ckM num hr i j N m q).2 = m.2
  | 0 => rfl
  | q + 1 => by
    have ih := two_ck num hr i j N m q
    show (ckStep num hr i j N q (ckM num hr i j N m q)).2 = m.2
    unfold ckStep
    split
    · rw [two_push, two_push]; exact ih
    · exact ih
theorem two_lk2 (i j : Nat) (rest : Bool) (m : Mem) : (lk2 i j rest m).2 = m.2 := by unfold lk2; split <;> rfl
theorem two_thaw (i j N : Nat) (air : Int32) (m : Mem) : (thawM i j N air m).2 = m.2 := by
  unfold thawM
  split
  · rfl
  · split <;> rfl
theorem two_step (i j : Nat) (rest : Bool) (m : Mem) : (lkStep i j rest m).2 = m.2 := by
  show (thawM i j (nLy m i j) (m.1 (LA i) 2) (lk3 i j rest m)).2 = m.2
  rw [two_thaw]
  show (ckM (nI j) (m.1 (LA i) 3) i j (nLy m i j) (lk2 i j rest m) (nLy m i j)).2 = m.2
  rw [two_ck, two_lk2]
theorem two_lks (i : Nat) (rest : Bool) (m : Mem) : ∀ q, (lksM i rest m q).2 = m.2
  | 0 => rfl
  | q + 1 => (two_step i q rest (lksM i rest m q)).trans (two_lks i rest m q)
theorem two_hours (i : Nat) (m : Mem) : ∀ q, (hoursM i m q).2 = m.2
  | 0 => rfl
  | q + 1 => (two_lks i _ (hourM0 i (hoursM i m q)) _).trans (two_hours i m q)
theorem two_cmd (i k : Nat) (n : Nat → Int32) (m : Mem) : (cmdM i k n m).2 = m.2 := by
  unfold cmdM
  split
  · rfl
  · rfl
  · rfl
  · exact two_hours i m _
  · rfl
  · rfl
  · rfl
theorem two_run (M : Mem) : ∀ q, (runM M q).2 = M.2
  | 0 => two_cpLand _ _ _
  | q + 1 => (two_cmd _ _ _ _).trans (two_run M q)
def JT (m : Mem) : Prop := TK m ∧ m.1 363 12 = nI (tN m) ∧ m.1 370 = m.1 334 ∧ m.1 363 7 = m.1 0 6 ∧ m.1 363 8 = m.1 0 7 ∧ (¬ m.1 0 7 = -1 → m.1 363 9 = m.1 0 8) ∧ fits .char (.int (m.1 0 8)) = true ∧ fits .char (.int (m.1 363 9)) = true ∧ ∃ l : List Int32, LT m l ∧ LR m l ∧ m.1 363 14 = nI l.length ∧ l.length ≤ 80 ∧ ∀ j, j < l.length → ∃ c, c < 128 ∧ l.getD j 0 = nI c
def JA (K : Nat) (m : Mem) : Prop := JS m m ∧ XI K m ∧ JT m
theorem JA.ci {K : Nat} {m : Mem} (h : JA K m) : CI m := h.1.2.1
theorem JA.rm {K : Nat} {m : Mem} (h : JA K m) : RM (m.1 364) m 0 := h.1.1.1
theorem JA.xl {K : Nat} {m : Mem} (h : JA K m) : XL m 0 := h.1.1.2
theorem JA.lw {K : Nat} {m : Mem} (h : JA K m) : LW m 0 := h.ci.1
theorem JA.mono {K K' : Nat} {m : Mem} (h : JA K m) (hK : K ≤ K') : JA K' m := ⟨h.1, h.2.1.mono hK, h.2.2⟩
/-- what the text's and the line's relation sees -/
def TR (m m' : Mem) : Prop := m'.2 = m.2 ∧ (∀ f, 6 ≤ f → f ≤ 8 → m'.1 0 f = m.1 0 f) ∧ (∀ k, k = 333 ∨ k = 334 ∨ k = 360 ∨ k = 361 ∨ k = 370 ∨ k = 371 → m'.1 k = m.1 k) ∧ ∀ f, f = 7 ∨ f = 8 ∨ f = 9 ∨ f = 12 ∨ f = 14 → m'.1 363 f = m.1 363 f
theorem TR.refl (m : Mem) : TR m m := ⟨rfl, fun _ _ _ => rfl, fun _ _ => rfl, fun _ _ => rfl⟩
theorem TR.trans {m m' m2 : Mem} (h : TR m m') (h2 : TR m' m2) : TR m m2 := ⟨h2.1.trans h.1, fun f a b => (h2.2.1 f a b).trans (h.2.1 f a b), fun k a => (h2.2.2.1 k a).trans (h.2.2.1 k a), fun f a => (h2.2.2.2 f a).trans (h.2.2.2 f a)⟩
theorem JT.tr {m m' : Mem} (h : JT m) (t : TR m m') : JT m' := by
  obtain ⟨h1, h2, h3, h4, h5, h6, h7, h8, l, h9, h10, h11, h12, h13⟩ := h
  obtain ⟨t0, t1, t2, t3⟩ := t
  have e333 := t2 333 (by decide)
  have e334 := t2 334 (by decide)
  have e370 := t2 370 (by decide)
  have etN : tN m' = tN m := by unfold tN; rw [e333]
  refine ⟨?_, ?_, ?_, ?_, ?_, ?_, ?_, ?_, l, ?_, ?_, ?_, h12, h13⟩
  · unfold TK; rw [etN, e333]; exact h1
  · rw [t3 12 (by decide), etN]; exact h2
  · rw [e370, e334]; exact h3
  · rw [t3 7 (by decide), t1 6 (by decide) (by decide)]; exact h4
  · rw [t3 8 (by decide), t1 7 (by decide) (by decide)]; exact h5
  · rw [t1 7 (by decide) (by decide), t3 9 (by decide), t1 8 (by decide) (by decide)]; exact h6
  · rw [t1 8 (by decide) (by decide)]; exact h7
  · rw [t3 9 (by decide)]; exact h8
  · unfold LT SW at h9 ⊢; rw [t2 360 (by decide), t2 361 (by decide), t0]; exact h9
  · unfold LR at h10 ⊢; rw [t2 371 (by decide)]; exact h10
  · rw [t3 14 (by decide)]; exact h11
theorem TR.mfx {m m' : Mem} (h : MFx m m') : TR m m' := ⟨h.1, fun f _ _ => by rw [h.2.1 0 (by decide) (by decide) (by decide) (by decide) (by decide)], fun k hk => h.2.1 k (by omega) (by omega) (by omega) (by omega) (by omega), fun f hf => h.2.2 f (by omega) (by omega)⟩
theorem TR.mft {m m' : Mem} (h : MFt m m') : TR m m' := ⟨h.1, fun f _ _ => by rw [h.2.1 0 (by decide) (by decide) (by decide) (by decide)], fun k hk => h.2.1 k (by omega) (by omega) (by omega) (by omega), fun f hf => h.2.2 f (by omega)⟩
theorem TR.mfu {m m' : Mem} (h : MFu m m') : TR m m' := ⟨h.1, fun f _ _ => by rw [h.2.1 0 (by decide) (by decide) (by decide)], fun k hk => h.2.1 k (by omega) (by omega) (by omega), fun f hf => h.2.2 f (by omega) (by omega) (by omega)⟩
/-- the class's landscapes alone have moved -/
def CV (m m' : Mem) : Prop := m'.2 = m.2 ∧ (∀ k, 333 ≤ k → k ≠ 362 → m'.1 k = m.1 k) ∧ ∀ f, f ≠ 3 → m'.1 0 f = m.1 0 f
theorem CV.trans {m m' m2 : Mem} (h : CV m m') (h2 : CV m' m2) : CV m m2 := ⟨h2.1.trans h.1, fun k a b => (h2.2.1 k a b).trans (h.2.1 k a b), fun f a => (h2.2.2 f a).trans (h.2.2 f a)⟩
theorem CV.mk' {m m' : Mem} (h1 : m'.2 = m.2) (h2 : ∀ k, (k = 0 ∨ 333 ≤ k) → m'.1 k = m.1 k) : CV m m' := ⟨h1, fun k a _ => h2 k (Or.inr a), fun f _ => by rw [h2 0 (Or.inl rfl)]⟩
theorem TR.cv {m m' : Mem} (h : CV m m') : TR m m' := ⟨h.1, fun f a b => h.2.2 f (by omega), fun k hk => h.2.1 k (by omega) (by omega), fun f _ => by rw [h.2.1 363 (by decide) (by decide)]⟩
theorem CV.rem {m : Mem} (hI : CI m) : CV m (rem m) := CV.mk' (two_rem m) (fun k hk => remH_cell hI.1.nl5 (by have := LA_3 (hw m); have := hI.2.1.2.1; omega) (by omega))
/-- what the answers' row and the exception's number are -/
def RD (m m' : Mem) : Prop := m'.2 = m.2 ∧ (∀ k, (k < 31 ∨ 61 ≤ k) → k ≠ 362 → k ≠ 363 → k ≠ 373 → k ≠ 374 → m'.1 k = m.1 k) ∧ ∀ f, f ≠ 15 → m'.1 363 f = m.1 363 f
theorem RD.refl (m : Mem) : RD m m := ⟨rfl, fun _ _ _ _ _ _ => rfl, fun _ _ => rfl⟩
theorem RD.trans {m m' m2 : Mem} (h : RD m m') (h2 : RD m' m2) : RD m m2 := ⟨h2.1.trans h.1, fun k e a b c d => (h2.2.1 k e a b c d).trans (h.2.1 k e a b c d), fun f a => (h2.2.2 f a).trans (h.2.2 f a)⟩
theorem RD.thr (m : Mem) (t : Int32) : RD m (up m 363 15 t) := ⟨rfl, fun k _ _ b _ _ => up_cell _ _ _ b, fun f a => up_slot _ _ _ a⟩
theorem RD.out (m : Mem) (v : Int32) : RD m (up m 373 0 v) := ⟨rfl, fun k _ _ _ c _ => up_cell _ _ _ c, fun f _ => by rw [up_cell _ _ _ (by decide)]⟩
theorem RD.dout (m : Mem) (x : UInt64) : RD m (dUp m x) := ⟨rfl, fun k _ _ _ _ d => (up_cell _ _ _ d).trans (up_cell _ _ _ d), fun f _ => by unfold dUp; rw [up_cell _ _ _ (by decide), up_cell _ _ _ (by decide)]⟩
theorem RD.tly (m : Mem) (f : Nat → Int32) : RD m (setRow m 362 f) := ⟨rfl, fun k _ a _ _ _ => setRow_cell _ _ a, fun f _ => by rw [setRow_cell _ _ (by decide)]⟩
theorem RD.tri {m m' : Mem} (h1 : m'.2 = m.2) (h2 : ∀ k, (k < 31 ∨ 61 ≤ k) → m'.1 k = m.1 k) : RD m m' := ⟨h1, fun k e _ _ _ _ => h2 k e, fun f _ => by rw [h2 363 (by decide)]⟩
theorem RD.tr {m m' : Mem} (h : RD m m') : TR m m' := ⟨h.1, fun f _ _ => by rw [h.2.1 0 (by decide) (by decide) (by decide) (by decide) (by decide)], fun k hk => h.2.1 k (by omega) (by omega) (by omega) (by omega) (by omega), fun f hf => h.2.2 f (by omega)⟩
theorem JS.rdj {m m' M : Mem} (h : JS m M) (r : RD m m') : JS m' M := h.mem (r.2.1 _ (by decide) (by decide) (by decide) (by decide) (by decide)) (r.2.2 6 (by decide)) (r.2.2 5 (by decide)) (r.2.1 _ (by decide) (by decide) (by decide) (by decide) (by decide)) (r.2.1 _ (by decide) (by decide) (by decide) (by decide) (by decide))
theorem RD.k {m m' : Mem} (r : RD m m') : ∀ k, (k < 31 ∨ (61 ≤ k ∧ k < 333)) → m'.1 k = m.1 k := fun k hk => r.2.1 k (by omega) (by omega) (by omega) (by omega) (by omega)
theorem JA.read {K : Nat} {m m' : Mem} (h : JA K m) (r : RD m m') : JA K m' :=
  ⟨(h.1.rdj r).agr r.k, h.2.1.agr h.ci r.k, h.2.2.tr r.tr⟩
theorem JA.rmr {K : Nat} {m m' : Mem} (h : JA K m) (r : RD m m') : RM (m'.1 364) m 0 := by
  rw [r.2.1 364 (by decide) (by decide) (by decide) (by decide) (by decide)]
  exact h.rm
/-- the end of a call of both: the class's new state M2, the reference's beside it -/
theorem JA.fin {K K' : Nat} {m M2 m2 : Mem} (h : JA K m) (hJ : JS m2 M2) (hX : XI K' M2) (hTR : TR m m2) (hk : ∀ k, (k < 31 ∨ (61 ≤ k ∧ k < 333)) → m2.1 k = M2.1 k) : JA K' m2 :=
  ⟨hJ.agr hk, hX.agr hJ.2.1 hk, h.2.2.tr hTR⟩
/-- the answer that both give -/
def LOut (K : Nat) (k b : Int32) (m2 : Mem) : Prop := JA K m2 ∧ m2.1 363 15 = k ∧ (k = 0 → m2.1 373 0 = b)
/-- the class's answer to a change -/
def WC (m M2 : Mem) (f v0 : Int32) (C : Int32 → Int32 → Prop) (v : Int32) (mA : Mem) : Prop := (v = 0 ∧ f = 45 ∧ mA = up M2 373 0 v0) ∨ (C f v ∧ mA = m)
/-- the class's answer to a question -/
def WA (m : Mem) (c : Prop) (v0 v : Int32) (mA : Mem) : Prop := (c ∧ v = 0 ∧ mA = up m 373 0 v0) ∨ (¬ c ∧ v = 1 ∧ mA = m)
theorem WA.rd {m mA : Mem} {c : Prop} {v0 v : Int32} (h : WA m c v0 v mA) : RD m mA := by
  rcases h with ⟨_, _, rfl⟩ | ⟨_, _, rfl⟩
  · exact RD.out _ _
  · exact RD.refl _
theorem WA.fin {K : Nat} {m mA m2 : Mem} {c : Prop} {v0 v b : Int32} (h : WA m c v0 v mA) (hJ : JA K m) (hb : akP mA c v0 b m2) : LOut K v b m2 := by
  have hr := h.rd
  rcases hb with ⟨h1, hb, hm⟩ | ⟨h1, hb, hm⟩
  · rcases h with ⟨_, hv, hA⟩ | ⟨hn, _⟩
    · refine ⟨hJ.read (hr.trans (hm ▸ RD.thr _ _)), ?_, fun _ => ?_⟩
      · rw [hm, up_same, hv]
      · rw [hm, up_cell _ _ _ (by decide), hA, up_same, hb]
    · exact absurd h1 hn
  · rcases h with ⟨hc, _⟩ | ⟨_, hv, hA⟩
    · exact absurd hc h1
    · refine ⟨hJ.read (hr.trans (hm ▸ RD.thr _ _)), ?_, fun z => ?_⟩
      · rw [hm, up_same, hv]
      · rw [hv] at z; exact absurd z (by decide)
theorem WC.js {K : Nat} {m M2 mA : Mem} {f v0 v : Int32} {C : Int32 → Int32 → Prop} (h : WC m M2 f v0 C v mA) (hJ : JA K m) (hV : f = 45 → CV m M2) : JS mA m := by
  rcases h with ⟨_, hf, rfl⟩ | ⟨_, rfl⟩
  · have hc := hV hf
    have e : ∀ k, k = 363 ∨ k = 364 ∨ k = 367 ∨ k = 368 → (up M2 373 0 v0).1 k = m.1 k := fun k hk => by rw [up_cell _ _ _ (by omega)]; exact hc.2.1 k (by omega) (by omega)
    exact hJ.1.mem (e _ (by decide)) (by rw [e 363 (by decide)]) (by rw [e 363 (by decide)]) (e _ (by decide)) (e _ (by decide))
  · exact hJ.1
theorem WC.fin {K K' : Nat} {m M2 mA m2 : Mem} {f v0 v b : Int32} {C : Int32 → Int32 → Prop} (h : WC m M2 f v0 C v mA) (hJ : JA K m) (hV : f = 45 → CV m M2) (hX : f = 45 → XI K' M2) (hK : K ≤ K') (hC : ∀ t, ¬ C 45 t) (hC0 : ∀ t t', C f t → C f t' → t = t') (hCz : ∀ t, C f t → ¬ t = 0) (hb : chP mA m M2 f v0 C b m2) : LOut K' v b m2 := by
  obtain ⟨hb, hF⟩ := hb
  have hkk : ∀ k, (k < 31 ∨ (61 ≤ k ∧ k < 333)) → m2.1 k = mA.1 k := fun k hk => hF.2.1 k (by omega) (by omega) (by omega) (by omega) (by omega)
  rcases h with ⟨hv, hf, hA⟩ | ⟨hc, hA⟩
  · have hcv := hV hf
    rcases hb with ⟨_, hb, h15, hJ2⟩ | ⟨_, t, ht, _⟩
    · refine ⟨hJ.fin hJ2 (hX hf) ((TR.cv hcv).trans ((hA ▸ (RD.out _ _).tr).trans (TR.mfx hF))) (fun k hk => ?_), by rw [h15, hv], fun _ => ?_⟩
      · rw [hkk k hk, hA, up_cell _ _ _ (by omega)]
      · rw [hF.2.1 373 (by decide) (by decide) (by decide) (by decide) (by decide), hA, up_same, hb]
    · rw [hf] at ht; exact absurd ht (hC t)
  · rcases hb with ⟨hf, _⟩ | ⟨_, t, ht, h15, hJ2⟩
    · rw [hf] at hc; exact absurd hc (hC v)
    · refine ⟨hJ.fin hJ2 (hJ.2.1.mono hK) (hA ▸ TR.mfx hF) (fun k hk => ?_), ?_, fun z => absurd z (hCz v hc)⟩
      · rw [hkk k hk, hA]
      · rw [h15]; exact hC0 _ _ ht hc
/-- the class's answer to a question that more than one exception may meet -/
def WK (m : Mem) (c : Prop) (C : Int32 → Prop) (v0 v : Int32) (mA : Mem) : Prop := (c ∧ v = 0 ∧ mA = up m 373 0 v0) ∨ (C v ∧ mA = m)
theorem WK.rd {m mA : Mem} {c : Prop} {C : Int32 → Prop} {v0 v : Int32} (h : WK m c C v0 v mA) : RD m mA := by
  rcases h with ⟨_, _, rfl⟩ | ⟨_, rfl⟩
  · exact RD.out _ _
  · exact RD.refl _
theorem WK.fin {K : Nat} {m mA m2 : Mem} {c : Prop} {C : Int32 → Prop} {v0 v b : Int32} (h : WK m c C v0 v mA) (hJ : JA K m) (hx : c → ∀ t, ¬ C t) (hf : ∀ t t', C t → C t' → t = t') (hz : ∀ t, C t → ¬ t = 0) (hb : (c ∧ b = v0 ∧ m2 = up mA 363 15 0) ∨ (∃ t, C t ∧ m2 = up mA 363 15 t)) : LOut K v b m2 := by
  have hr := h.rd
  rcases hb with ⟨h1, hb, hm⟩ | ⟨t, h1, hm⟩
  · rcases h with ⟨_, hv, hA⟩ | ⟨hn, _⟩
    · refine ⟨hJ.read (hr.trans (hm ▸ RD.thr _ _)), ?_, fun _ => ?_⟩
      · rw [hm, up_same, hv]
      · rw [hm, up_cell _ _ _ (by decide), hA, up_same, hb]
    · exact absurd hn (hx h1 _)
  · rcases h with ⟨hc, _⟩ | ⟨hc, hA⟩
    · exact absurd h1 (hx hc _)
    · refine ⟨hJ.read (hr.trans (hm ▸ RD.thr _ _)), ?_, fun z => absurd z (hz v hc)⟩
      rw [hm, up_same]
      exact hf _ _ h1 hc
theorem faultE_inv {f : Int32} {E : String} (h : faultE f = some E) : (f = 98 ∧ E = "java/lang/IndexOutOfBoundsException") ∨ (f = 97 ∧ E = "java/lang/IllegalArgumentException") ∨ (f = 115 ∧ E = "java/lang/IllegalStateException") ∨ (f = 117 ∧ E = "java/lang/UnsupportedOperationException") := by
  unfold faultE at h
  split at h
  · rename_i e; exact Or.inl ⟨e, (Option.some.inj h).symm⟩
  · split at h
    · rename_i e; exact Or.inr (Or.inl ⟨e, (Option.some.inj h).symm⟩)
    · split at h
      · rename_i e; exact Or.inr (Or.inr (Or.inl ⟨e, (Option.some.inj h).symm⟩))
      · split at h
        · rename_i e; exact Or.inr (Or.inr (Or.inr ⟨e, (Option.some.inj h).symm⟩))
        · cases h
theorem fault_IO {f : Int32} (h : faultE f = some "java/lang/IndexOutOfBoundsException") : f = 98 := by
  rcases faultE_inv h with ⟨e, _⟩ | ⟨_, z⟩ | ⟨_, z⟩ | ⟨_, z⟩
  · exact e
  all_goals exact absurd z (by decide)
theorem fault_IA {f : Int32} (h : faultE f = some "java/lang/IllegalArgumentException") : f = 97 := by
  rcases faultE_inv h with ⟨_, z⟩ | ⟨e, _⟩ | ⟨_, z⟩ | ⟨_, z⟩
  · exact absurd z (by decide)
  · exact e
  all_goals exact absurd z (by decide)
theorem fault_IS {f : Int32} (h : faultE f = some "java/lang/IllegalStateException") : f = 115 := by
  rcases faultE_inv h with ⟨_, z⟩ | ⟨_, z⟩ | ⟨e, _⟩ | ⟨_, z⟩
  · exact absurd z (by decide)
  · exact absurd z (by decide)
  · exact e
  · exact absurd z (by decide)
theorem fault_UO {f : Int32} (h : faultE f = some "java/lang/UnsupportedOperationException") : f = 117 := by
  rcases faultE_inv h with ⟨_, z⟩ | ⟨_, z⟩ | ⟨_, z⟩ | ⟨e, _⟩
  · exact absurd z (by decide)
  · exact absurd z (by decide)
  · exact absurd z (by decide)
  · exact e
theorem placeF_cs (m : Mem) (i : Nat) (x : Int32) : placeF m i x = 45 ∨ placeF m i x = 97 ∨ placeF m i x = 115 := by
  unfold placeF
  split
  · exact Or.inr (Or.inl rfl)
  · split
    · exact Or.inl rfl
    · exact Or.inr (Or.inr rfl)
theorem airF_cs (x : Int32) : airF x = 45 ∨ airF x = 97 := by
  unfold airF
  split
  · exact Or.inr rfl
  · exact Or.inl rfl
theorem passF_cs (x : Int32) : passF x = 45 ∨ passF x = 97 := by
  unfold passF
  split
  · exact Or.inr rfl
  · exact Or.inl rfl
theorem winF_cs (m : Mem) (i : Nat) (x z : Int32) : winF m i x z = 45 ∨ winF m i x z = 97 ∨ winF m i x z = 115 ∨ winF m i x z = 117 := by
  unfold winF
  split
  · exact Or.inr (Or.inl rfl)
  · split
    · exact Or.inr (Or.inr (Or.inl rfl))
    · split
      · exact Or.inr (Or.inr (Or.inr rfl))
      · exact Or.inl rfl
theorem openF_cs (m : Mem) (i : Nat) (x : Int32) : openF m i x = 45 ∨ openF m i x = 98 := by
  unfold openF
  split
  · exact Or.inl rfl
  · exact Or.inr rfl
theorem ringF_cs (m : Mem) (i : Nat) (x y : Int32) : ringF m i x y = 45 ∨ ringF m i x y = 98 ∨ ringF m i x y = 117 := by
  unfold ringF
  split
  · split
    · exact Or.inr (Or.inr rfl)
    · exact Or.inl rfl
  · exact Or.inr (Or.inl rfl)
theorem growF_cs (m : Mem) (i : Nat) (x t te : Int32) : growF m i x t te = 45 ∨ growF m i x t te = 98 ∨ growF m i x t te = 97 ∨ growF m i x t te = 115 ∨ growF m i x t te = 117 := by
  unfold growF
  split
  · exact Or.inr (Or.inl rfl)
  · split
    · exact Or.inr (Or.inr (Or.inl rfl))
    · split
      · exact Or.inr (Or.inr (Or.inr (Or.inl rfl)))
      · split
        · exact Or.inr (Or.inr (Or.inr (Or.inr rfl)))
        · exact Or.inl rfl
