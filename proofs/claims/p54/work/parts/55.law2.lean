/-! deeds keep what holds; what is asked is answered -/
theorem fE {f : Int32} {E : String} {p : Prop} (h : faultE f = some E ∧ p) : E = "java/lang/IndexOutOfBoundsException" ∨ E = "java/lang/IllegalArgumentException" ∨ E = "java/lang/IllegalStateException" ∨ E = "java/lang/UnsupportedOperationException" := by
  rcases faultE_inv h.1 with ⟨-, e⟩ | ⟨-, e⟩ | ⟨-, e⟩ | ⟨-, e⟩
  · exact Or.inl e
  · exact Or.inr (Or.inl e)
  · exact Or.inr (Or.inr (Or.inl e))
  · exact Or.inr (Or.inr (Or.inr e))
theorem fE3 {f : Int32} {E : String} {p : Prop} (h : faultE f = some E ∧ p) (h1 : ¬ f = 97) (h2 : ¬ f = 115) : E = "java/lang/IndexOutOfBoundsException" ∨ E = "java/util/NoSuchElementException" ∨ E = "java/lang/UnsupportedOperationException" := by
  rcases faultE_inv h.1 with ⟨-, e⟩ | ⟨e, -⟩ | ⟨e, -⟩ | ⟨-, e⟩
  · exact Or.inl e
  · exact absurd e h1
  · exact absurd e h2
  · exact Or.inr (Or.inr e)
theorem DE.fin {g : xG} {K : Nat} {m m2 : Mem} {A : Prop} {f v : Int32} (hI : IV g K m) (hA : A → IV g (K + 400) m2) (h : A ∨ (v = -2002 ∧ faultE f = some "java/lang/IndexOutOfBoundsException" ∧ m2 = m) ∨ (v = -2003 ∧ faultE f = some "java/lang/IllegalArgumentException" ∧ m2 = m) ∨ (v = -2005 ∧ faultE f = some "java/lang/IllegalStateException" ∧ m2 = m) ∨ (v = -2001 ∧ faultE f = some "java/lang/UnsupportedOperationException" ∧ m2 = m)) : IV g (K + 400) m2 := by
  rcases h with h | ⟨-, -, rfl⟩ | ⟨-, -, rfl⟩ | ⟨-, -, rfl⟩ | ⟨-, -, rfl⟩
  · exact hA h
  · exact hI.mono (by omega)
  · exact hI.mono (by omega)
  · exact hI.mono (by omega)
  · exact hI.mono (by omega)
theorem d_0 {g : xG} (hG : GK g) {K : Nat} {m : Mem} (hI : IV g K m) {a b c : Int32} : CC g yL_deed (.codeWith yL_deed cL_deed 6 (some .int) [(0, 9, 10, 49), (0, 9, 16, 51), (0, 9, 22, 53), (0, 9, 28, 55)]) (4 + 1 + 1) 1 6 [.ref (ad g 0), .int 0, .int a, .int b, .int c] m (rI (fun _ m2 => IV g (K + 400) m2)) noX :=
  (c_L_deed hG (c_L_plain_0 hG (c_X9_addLake hG hI.ci)) (fun _ _ h => fE h)).imp (fun r m' ⟨v, e, h⟩ => ⟨v, e, DE.fin hI (fun h => by obtain ⟨hf, -, rfl⟩ := h; exact (hI.place hf).mono (by omega)) h⟩) (fun _ _ h => h)
theorem d_1 {g : xG} (hG : GK g) {K : Nat} {m : Mem} (hI : IV g K m) {a b c : Int32} : CC g yL_deed (.codeWith yL_deed cL_deed 6 (some .int) [(0, 9, 10, 49), (0, 9, 16, 51), (0, 9, 22, 53), (0, 9, 28, 55)]) (4 + 1 + 1) 1 6 [.ref (ad g 0), .int 1, .int a, .int b, .int c] m (rI (fun _ m2 => IV g (K + 400) m2)) noX :=
  (c_L_deed hG (c_L_plain_1 hG (c_X9_freeze hG hI.ci)) (fun _ _ h => fE h)).imp (fun r m' ⟨v, e, h⟩ => ⟨v, e, DE.fin hI (fun h => by obtain ⟨hf, -, rfl⟩ := h; exact (hI.grow hf).mono (by omega)) h⟩) (fun _ _ h => h)
theorem d_2 {g : xG} (hG : GK g) {K : Nat} {m : Mem} (hI : IV g K m) {a b c : Int32} : CC g yL_deed (.codeWith yL_deed cL_deed 6 (some .int) [(0, 9, 10, 49), (0, 9, 16, 51), (0, 9, 22, 53), (0, 9, 28, 55)]) (4 + 1 + 1) 1 6 [.ref (ad g 0), .int 2, .int a, .int b, .int c] m (rI (fun _ m2 => IV g (K + 400) m2)) noX :=
  (c_L_deed hG (c_L_plain_2 hG (c_X9_setAir hG hI.ci)) (fun _ _ h => fE h)).imp (fun r m' ⟨v, e, h⟩ => ⟨v, e, DE.fin hI (fun h => by obtain ⟨r, ⟨hf, -, rfl⟩, -⟩ := h; exact (hI.air hf).mono (by omega)) h⟩) (fun _ _ h => h)
theorem d_3 {g : xG} (hG : GK g) {K : Nat} {m : Mem} (hI : IV g K m) {a b c : Int32} : CC g yL_deed (.codeWith yL_deed cL_deed 6 (some .int) [(0, 9, 10, 49), (0, 9, 16, 51), (0, 9, 22, 53), (0, 9, 28, 55)]) (7 + 1 + 1) 1 6 [.ref (ad g 0), .int 3, .int a, .int b, .int c] m (rI (fun _ m2 => IV g (K + 400) m2)) noX :=
  (c_L_deed hG (c_L_plain_3 hG (c_X9_pass hG hI.ci)) (fun _ _ h => fE h)).imp (fun r m' ⟨v, e, h⟩ => ⟨v, e, DE.fin hI (fun h => by obtain ⟨hf, -, rfl⟩ := h; exact (hI.hours _).mono (by have := (passF_ok hf).2.1; omega)) h⟩) (fun _ _ h => h)
theorem d_4 {g : xG} (hG : GK g) {K : Nat} {m : Mem} (hI : IV g K m) {a b c : Int32} : CC g yL_deed (.codeWith yL_deed cL_deed 6 (some .int) [(0, 9, 10, 49), (0, 9, 16, 51), (0, 9, 22, 53), (0, 9, 28, 55)]) (4 + 1 + 1) 1 6 [.ref (ad g 0), .int 4, .int a, .int b, .int c] m (rI (fun _ m2 => IV g (K + 400) m2)) noX :=
  (c_L_deed hG (c_L_plain_4 hG (c_X9_addWindow hG hI.ci)) (fun _ _ h => fE h)).imp (fun r m' ⟨v, e, h⟩ => ⟨v, e, DE.fin hI (fun h => by obtain ⟨hf, -, rfl⟩ := h; exact (hI.win hf).mono (by omega)) h⟩) (fun _ _ h => h)
theorem d_5 {g : xG} (hG : GK g) {K : Nat} {m : Mem} (hI : IV g K m) {a b c : Int32} : CC g yL_deed (.codeWith yL_deed cL_deed 6 (some .int) [(0, 9, 10, 49), (0, 9, 16, 51), (0, 9, 22, 53), (0, 9, 28, 55)]) (4 + 1 + 1) 1 6 [.ref (ad g 0), .int 5, .int a, .int b, .int c] m (rI (fun _ m2 => IV g (K + 400) m2)) noX :=
  (c_L_deed hG (c_L_plain_5 hG (c_X9_removeWindow hG hI.ci)) (fun _ _ h => fE h)).imp (fun r m' ⟨v, e, h⟩ => ⟨v, e, DE.fin hI (fun h => by obtain ⟨hf, -, rfl⟩ := h; exact (hI.shut hf).mono (by omega)) h⟩) (fun _ _ h => h)
theorem d_6 {g : xG} (hG : GK g) {K : Nat} {m : Mem} (hI : IV g K m) {a b c : Int32} : CC g yL_deed (.codeWith yL_deed cL_deed 6 (some .int) [(0, 9, 10, 49), (0, 9, 16, 51), (0, 9, 22, 53), (0, 9, 28, 55)]) (4 + 1 + 1) 1 6 [.ref (ad g 0), .int 6, .int a, .int b, .int c] m (rI (fun _ m2 => IV g (K + 400) m2)) noX :=
  (c_L_deed hG (c_L_plain_6 hG (c_X9_strike hG hI.ci)) (fun _ _ h => fE h)).imp (fun r m' ⟨v, e, h⟩ => ⟨v, e, DE.fin hI (fun h => by obtain ⟨hf, -, rfl⟩ := h; exact (hI.ring hf).mono (by omega)) h⟩) (fun _ _ h => h)
theorem a0_out {g : xG} (hG : GK g) {m : Mem} (hI : CI m) {a b : Int32} (hn : ¬ inL m a) : CC g yL_ask (.codeWith yL_ask cL_ask 5 (some .int) [(0, 7, 8, 49), (0, 7, 14, 98), (0, 7, 20, 55)]) (3 + 1 + 1) 1 6 [.ref (ad g 0), .int 0, .int a, .int b] m (rI (fun v m2 => v = -2002 ∧ m2 = m)) noX := by
  refine (c_L_ask hG (c_L_asked_0 hG (c_X9_depth hG hI)) (fun E m' h => Or.inl h.1)).imp (fun r m' hq => ?_) (fun _ _ h => h)
  obtain ⟨v, e, h⟩ := hq
  refine ⟨v, e, ?_⟩
  rcases h with ⟨h1, -⟩ | ⟨rfl, h2, h3, rfl⟩ | ⟨-, h2, -⟩ | ⟨-, h2, -⟩
  · exact absurd h1 hn
  · exact ⟨rfl, rfl⟩
  · exact absurd h2 (by decide)
  · exact absurd h2 (by decide)
theorem a1_out {g : xG} (hG : GK g) {m : Mem} (hI : CI m) {a b : Int32} (hn : ¬ inY m a b) : CC g yL_ask (.codeWith yL_ask cL_ask 5 (some .int) [(0, 7, 8, 49), (0, 7, 14, 98), (0, 7, 20, 55)]) (4 + 1 + 1) 2 12 [.ref (ad g 0), .int 1, .int a, .int b] m (rI (fun v m2 => v = -2002 ∧ m2 = m)) noX := by
  refine (c_L_ask hG (c_L_asked_1 hG (c_X9_temperature hG hI)) (fun E m' h => Or.inl h.1)).imp (fun r m' hq => ?_) (fun _ _ h => h)
  obtain ⟨v, e, h⟩ := hq
  refine ⟨v, e, ?_⟩
  rcases h with ⟨r, ⟨h1, -⟩, -⟩ | ⟨rfl, h2, h3, rfl⟩ | ⟨-, h2, -⟩ | ⟨-, h2, -⟩
  · exact absurd h1 hn
  · exact ⟨rfl, rfl⟩
  · exact absurd h2 (by decide)
  · exact absurd h2 (by decide)
theorem a2_out {g : xG} (hG : GK g) {m : Mem} (hI : CI m) {a b : Int32} (hn : ¬ inL m a) : CC g yL_ask (.codeWith yL_ask cL_ask 5 (some .int) [(0, 7, 8, 49), (0, 7, 14, 98), (0, 7, 20, 55)]) (3 + 1 + 1) 2 12 [.ref (ad g 0), .int 2, .int a, .int b] m (rI (fun v m2 => v = -2002 ∧ m2 = m)) noX := by
  refine (c_L_ask hG (c_L_asked_2 hG (c_X9_layerAt hG hI)) (fun E m' h => h.1.elim (fun z => Or.inl z.1) (fun z => Or.inr (Or.inl z.1)))).imp (fun r m' hq => ?_) (fun _ _ h => h)
  obtain ⟨v, e, h⟩ := hq
  refine ⟨v, e, ?_⟩
  rcases h with ⟨h1, h4, h5, rfl⟩ | ⟨rfl, (⟨-, h2⟩ | ⟨h2, -⟩), rfl⟩ | ⟨rfl, (⟨h2, -⟩ | ⟨-, h2, h3⟩), rfl⟩ | ⟨-, (⟨h2, -⟩ | ⟨h2, -⟩), -⟩
  · exact absurd h1 hn
  · exact ⟨rfl, rfl⟩
  · exact absurd h2 (by decide)
  · exact absurd h2 (by decide)
  · exact absurd h2 hn
  · exact absurd h2 (by decide)
  · exact absurd h2 (by decide)
theorem a2_no {g : xG} (hG : GK g) {m : Mem} (hI : CI m) {a b : Int32} (hin : inL m a) (hv : lcV (m.1 (LK 0 a.toNatClampNeg + 1)) b (nLy m 0 a.toNatClampNeg) = -1) : CC g yL_ask (.codeWith yL_ask cL_ask 5 (some .int) [(0, 7, 8, 49), (0, 7, 14, 98), (0, 7, 20, 55)]) (3 + 1 + 1) 2 12 [.ref (ad g 0), .int 2, .int a, .int b] m (rI (fun v m2 => v = -2004 ∧ m2 = m)) noX := by
  refine (c_L_ask hG (c_L_asked_2 hG (c_X9_layerAt hG hI)) (fun E m' h => h.1.elim (fun z => Or.inl z.1) (fun z => Or.inr (Or.inl z.1)))).imp (fun r m' hq => ?_) (fun _ _ h => h)
  obtain ⟨v, e, h⟩ := hq
  refine ⟨v, e, ?_⟩
  rcases h with ⟨h1, h4, h5, rfl⟩ | ⟨rfl, (⟨-, h2⟩ | ⟨h2, -⟩), rfl⟩ | ⟨rfl, (⟨h2, -⟩ | ⟨-, h2, h3⟩), rfl⟩ | ⟨-, (⟨h2, -⟩ | ⟨h2, -⟩), -⟩
  · exact absurd (h4.trans hv) h5
  · exact absurd hin h2
  · exact absurd h2 (by decide)
  · exact absurd h2 (by decide)
  · exact ⟨rfl, rfl⟩
  · exact absurd h2 (by decide)
  · exact absurd h2 (by decide)
theorem a3 {g : xG} (hG : GK g) {m : Mem} (hI : CI m) {a b : Int32}  : CC g yL_ask (.codeWith yL_ask cL_ask 5 (some .int) [(0, 7, 8, 49), (0, 7, 14, 98), (0, 7, 20, 55)]) (6 + 1 + 1) 1 6 [.ref (ad g 0), .int 3, .int a, .int b] m (rI (fun v m2 => (∃ n, n < 96 ∧ v = nI (n + 1) ∧ (∀ p, p < n → hourN 1 (hoursM 1 (cpLand 1 0 m) p) = 0) ∧ 0 < hourN 1 (hoursM 1 (cpLand 1 0 m) n) ∧ m2 = hoursM 1 (cpLand 1 0 m) (n + 1)) ∨ (v = -2004 ∧ (∀ p, p < 96 → hourN 1 (hoursM 1 (cpLand 1 0 m) p) = 0) ∧ m2 = hoursM 1 (cpLand 1 0 m) 96))) noX := by
  refine (c_L_ask hG (c_L_asked_3 hG (c_X9_hoursUntilCrack hG hI)) (fun E m' h => Or.inr (Or.inl h.1))).imp (fun r m' hq => ?_) (fun _ _ h => h)
  obtain ⟨v, e, h⟩ := hq
  refine ⟨v, e, ?_⟩
  rcases h with h | ⟨-, h2, -⟩ | ⟨rfl, -, h3, h4⟩ | ⟨-, h2, -⟩
  · exact Or.inl h
  · exact absurd h2 (by decide)
  · exact Or.inr ⟨rfl, h3, h4⟩
  · exact absurd h2 (by decide)
theorem a4_out {g : xG} (hG : GK g) {m : Mem} (hI : CI m) {a b : Int32} (hn : ¬ inL m a) : CC g yL_ask (.codeWith yL_ask cL_ask 5 (some .int) [(0, 7, 8, 49), (0, 7, 14, 98), (0, 7, 20, 55)]) (6 + 1 + 1) 2 12 [.ref (ad g 0), .int 4, .int a, .int b] m (rI (fun v m2 => v = -2002 ∧ m2 = m)) noX := by
  refine (c_L_ask hG (c_L_asked_4 hG (c_X9_hoursUntilThawed hG hI)) (fun E m' h => h.elim (fun z => Or.inl z.1) (fun z => Or.inr (Or.inl z.1)))).imp (fun r m' hq => ?_) (fun _ _ h => h)
  obtain ⟨v, e, h⟩ := hq
  refine ⟨v, e, ?_⟩
  rcases h with ⟨h1, h4⟩ | ⟨rfl, (⟨-, h2, rfl⟩ | ⟨h2, -⟩)⟩ | ⟨rfl, (⟨h2, -⟩ | ⟨-, h2, h3, h4⟩)⟩ | ⟨-, (⟨h2, -⟩ | ⟨h2, -⟩)⟩
  · exact absurd h1 hn
  · exact ⟨rfl, rfl⟩
  · exact absurd h2 (by decide)
  · exact absurd h2 (by decide)
  · exact absurd h2.1 hn
  · exact absurd h2 (by decide)
  · exact absurd h2 (by decide)
theorem a4_in {g : xG} (hG : GK g) {m : Mem} (hI : CI m) {a b : Int32} (hin : inL m a) : CC g yL_ask (.codeWith yL_ask cL_ask 5 (some .int) [(0, 7, 8, 49), (0, 7, 14, 98), (0, 7, 20, 55)]) (6 + 1 + 1) 2 12 [.ref (ad g 0), .int 4, .int a, .int b] m (rI (fun v m2 => (nLy m 0 a.toNatClampNeg = 0 ∧ v = 0 ∧ m2 = m) ∨ (¬ nLy m 0 a.toNatClampNeg = 0 ∧ ((∃ n, n < 96 ∧ v = nI (n + 1) ∧ (∀ p, p < n → ¬ nLy (hoursM 1 (cpLand 1 0 m) (p + 1)) 1 a.toNatClampNeg = 0) ∧ nLy (hoursM 1 (cpLand 1 0 m) (n + 1)) 1 a.toNatClampNeg = 0 ∧ m2 = hoursM 1 (cpLand 1 0 m) (n + 1)) ∨ (v = -2004 ∧ (∀ p, p < 96 → ¬ nLy (hoursM 1 (cpLand 1 0 m) (p + 1)) 1 a.toNatClampNeg = 0) ∧ m2 = hoursM 1 (cpLand 1 0 m) 96))))) noX := by
  refine (c_L_ask hG (c_L_asked_4 hG (c_X9_hoursUntilThawed hG hI)) (fun E m' h => h.elim (fun z => Or.inl z.1) (fun z => Or.inr (Or.inl z.1)))).imp (fun r m' hq => ?_) (fun _ _ h => h)
  obtain ⟨v, e, h⟩ := hq
  refine ⟨v, e, ?_⟩
  rcases h with ⟨h1, h4⟩ | ⟨rfl, (⟨-, h2, rfl⟩ | ⟨h2, -⟩)⟩ | ⟨rfl, (⟨h2, -⟩ | ⟨-, h2, h3, h4⟩)⟩ | ⟨-, (⟨h2, -⟩ | ⟨h2, -⟩)⟩
  · rcases h4 with h4 | ⟨h4, h5⟩
    · exact Or.inl h4
    · exact Or.inr ⟨h4, Or.inl h5⟩
  · exact absurd hin h2
  · exact absurd h2 (by decide)
  · exact absurd h2 (by decide)
  · exact Or.inr ⟨h2.2, Or.inr ⟨rfl, h3, h4⟩⟩
  · exact absurd h2 (by decide)
  · exact absurd h2 (by decide)
theorem a5_out {g : xG} (hG : GK g) {m : Mem} (hI : CI m) {a b : Int32} (hn : ¬ openF m 0 a = 45) : CC g yL_ask (.codeWith yL_ask cL_ask 5 (some .int) [(0, 7, 8, 49), (0, 7, 14, 98), (0, 7, 20, 55)]) (3 + 1 + 1) 1 6 [.ref (ad g 0), .int 5, .int a, .int b] m (rI (fun v m2 => v = -2002 ∧ m2 = m)) noX := by
  refine (c_L_ask hG (c_L_asked_5 hG (c_X9_windowFirst hG hI (x := a))) (fun E m' h => fE3 h (by rcases openF_cs m 0 a with z | z <;> (rw [z]; decide)) (by rcases openF_cs m 0 a with z | z <;> (rw [z]; decide)))).imp (fun r m' hq => ?_) (fun _ _ h => h)
  obtain ⟨v, e, h⟩ := hq
  refine ⟨v, e, ?_⟩
  have h98 : openF m 0 a = 98 := (openF_cs m 0 a).resolve_left hn
  rcases h with ⟨h1, -⟩ | ⟨rfl, h2, rfl⟩ | ⟨-, h2, -⟩ | ⟨-, h2, -⟩
  · exact absurd h1 hn
  · exact ⟨rfl, rfl⟩
  · rw [h98] at h2; exact absurd h2 (by decide)
  · rw [h98] at h2; exact absurd h2 (by decide)
theorem a6 {g : xG} (hG : GK g) {m : Mem} (hI : CI m) {a b : Int32}  : CC g yL_ask (.codeWith yL_ask cL_ask 5 (some .int) [(0, 7, 8, 49), (0, 7, 14, 98), (0, 7, 20, 55)]) (4 + 1 + 1) 1 6 [.ref (ad g 0), .int 6, .int a, .int b] m (rI (fun v m2 => ((ringF m 0 a b = 45 ∧ v = pitchV (m.1 (LK 0 a.toNatClampNeg + 1)) (m.1 (LK 0 a.toNatClampNeg + 2)) b.toNatClampNeg) ∨ (ringF m 0 a b = 98 ∧ v = -2002) ∨ (ringF m 0 a b = 117 ∧ v = -2001)) ∧ m2 = m)) noX := by
  refine (c_L_ask hG (c_L_asked_6 hG (c_X9_pitch hG hI (x := a) (y := b))) (fun E m' h => fE3 h (by rcases ringF_cs m 0 a b with z | z | z <;> (rw [z]; decide)) (by rcases ringF_cs m 0 a b with z | z | z <;> (rw [z]; decide)))).imp (fun r m' hq => ?_) (fun _ _ h => h)
  obtain ⟨v, e, h⟩ := hq
  refine ⟨v, e, ?_⟩
  rcases h with ⟨h1, h2, rfl⟩ | ⟨rfl, h2, rfl⟩ | ⟨-, h2, -⟩ | ⟨rfl, h2, rfl⟩
  · exact ⟨Or.inl ⟨h1, h2⟩, rfl⟩
  · exact ⟨Or.inr (Or.inl ⟨fault_IO h2, rfl⟩), rfl⟩
  · rcases ringF_cs m 0 a b with z | z | z <;> (rw [z] at h2; exact absurd h2 (by decide))
  · exact ⟨Or.inr (Or.inr ⟨fault_UO h2, rfl⟩), rfl⟩
theorem a7_out {g : xG} (hG : GK g) {m : Mem} (hI : CI m) {a b : Int32} (hn : ¬ inP m a) : CC g yL_ask (.codeWith yL_ask cL_ask 5 (some .int) [(0, 7, 8, 49), (0, 7, 14, 98), (0, 7, 20, 55)]) (4 + 1 + 1) 1 6 [.ref (ad g 0), .int 7, .int a, .int b] m (rI (fun v m2 => v = -2004 ∧ m2 = m)) noX := by
  refine (c_L_ask hG (c_L_asked_7 hG (c_X9_pealPitch hG hI)) (fun E m' h => Or.inr (Or.inl h.1))).imp (fun r m' hq => ?_) (fun _ _ h => h)
  obtain ⟨v, e, h⟩ := hq
  refine ⟨v, e, ?_⟩
  rcases h with ⟨h1, -⟩ | ⟨-, h2, -⟩ | ⟨rfl, h2, h3, rfl⟩ | ⟨-, h2, -⟩
  · exact absurd h1 hn
  · exact absurd h2 (by decide)
  · exact ⟨rfl, rfl⟩
  · exact absurd h2 (by decide)
theorem a8_out {g : xG} (hG : GK g) {m : Mem} (hI : CI m) {a b : Int32} (hn : firstI (fun q => decide (nI (rankN m 0 q (nLk m 0)) = a)) (nLk m 0) = -1) : CC g yL_ask (.codeWith yL_ask cL_ask 5 (some .int) [(0, 7, 8, 49), (0, 7, 14, 98), (0, 7, 20, 55)]) (6 + 1 + 1) 1 6 [.ref (ad g 0), .int 8, .int a, .int b] m (rI (fun v m2 => v = -2004 ∧ m2 = m)) noX := by
  refine (c_L_ask hG (c_L_asked_8 hG (c_X9_lakeAtRank hG hI)) (fun E m' h => Or.inr (Or.inl h.1))).imp (fun r m' hq => ?_) (fun _ _ h => h)
  obtain ⟨v, e, h⟩ := hq
  refine ⟨v, e, ?_⟩
  rcases h with ⟨h1, h4, -⟩ | ⟨-, h2, -⟩ | ⟨rfl, h2, h3, rfl⟩ | ⟨-, h2, -⟩
  · exact absurd (h1.trans hn) h4
  · exact absurd h2 (by decide)
  · exact ⟨rfl, rfl⟩
  · exact absurd h2 (by decide)
