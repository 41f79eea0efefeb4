/-! hours are the same in two landscapes with the same contents -/
def rl (n o f : Nat) : Prop := (o = 0 ∧ 1 ≤ f ∧ f ≤ 5) ∨ (o = 2 ∧ f = 2) ∨ ((o = 3 ∨ o = 4) ∧ f < 6) ∨ (o = 5 ∧ 4 ≤ f ∧ f ≤ 5) ∨ (6 ≤ o ∧ o ≤ 9 ∧ f < 16) ∨ (∃ j, j < n ∧ o = 10 + 4 * j ∧ 3 ≤ f ∧ f ≤ 5) ∨ (∃ j c, j < n ∧ 1 ≤ c ∧ c ≤ 3 ∧ o = 10 + 4 * j + c ∧ f < 8)
theorem LKo (i j c : Nat) : LK i j + c = LA i + (10 + 4 * j + c) := by unfold LK; omega
theorem LKo0 (i j : Nat) : LK i j = LA i + (10 + 4 * j) := by unfold LK; omega
/-- the same contents, n lakes, place by place -/
def E2 (n : Nat) (m m' : Mem) (i i' : Nat) : Prop := ∀ o f, o < 30 → rl n o f → m'.1 (LA i' + o) f = m.1 (LA i + o) f
theorem Sm.e2 {m m' : Mem} {i i' : Nat} (h : Sm m m' i i') : E2 (nLk m i) m m' i i' := by
  intro o f ho hr
  rcases hr with ⟨rfl, a, b⟩ | ⟨rfl, rfl⟩ | ⟨a, b⟩ | ⟨rfl, a, b⟩ | ⟨a, b, c⟩ | ⟨j, hj, rfl, a, b⟩ | ⟨j, c, hj, c1, c3, rfl, a⟩
  · exact h.f f a b
  · exact h.wn
  · exact h.w o (by omega) (by omega) f b
  · exact h.pn f a b
  · exact h.p o a b f c
  · rw [← LKo0, ← LKo0]; exact h.k j hj f a b
  · rw [← LKo, ← LKo]; exact h.r j hj c c1 c3 f a
theorem E2.sm {m m' : Mem} {i i' : Nat} (h : E2 (nLk m i) m m' i i') (h5 : nLk m i ≤ 5) : Sm m m' i i' :=
  ⟨fun f a b => h 0 f (by omega) (Or.inl ⟨rfl, a, b⟩), h 2 2 (by omega) (Or.inr (Or.inl ⟨rfl, rfl⟩)), fun o a b y c => h o y (by omega) (Or.inr (Or.inr (Or.inl ⟨by omega, c⟩))), fun f a b => h 5 f (by omega) (Or.inr (Or.inr (Or.inr (Or.inl ⟨rfl, a, b⟩)))), fun o a b y c => h o y (by omega) (Or.inr (Or.inr (Or.inr (Or.inr (Or.inl ⟨a, b, c⟩))))),
   fun j hj f a b => by rw [LKo0, LKo0]; exact h (10 + 4 * j) f (by omega) (Or.inr (Or.inr (Or.inr (Or.inr (Or.inr (Or.inl ⟨j, hj, rfl, a, b⟩)))))), fun j hj c a b y d => by rw [LKo, LKo]; exact h (10 + 4 * j + c) y (by omega) (Or.inr (Or.inr (Or.inr (Or.inr (Or.inr (Or.inr ⟨j, c, hj, a, b, rfl, d⟩))))))⟩
theorem E2.f {n : Nat} {m m' : Mem} {i i' : Nat} (h : E2 n m m' i i') {f : Nat} (a : 1 ≤ f) (b : f ≤ 5) : m'.1 (LA i') f = m.1 (LA i) f := h 0 f (by omega) (Or.inl ⟨rfl, a, b⟩)
theorem E2.k {n : Nat} {m m' : Mem} {i i' : Nat} (h : E2 n m m' i i') (h5 : n ≤ 5) {j f : Nat} (hj : j < n) (a : 3 ≤ f) (b : f ≤ 5) : m'.1 (LK i' j) f = m.1 (LK i j) f := by rw [LKo0, LKo0]; exact h (10 + 4 * j) f (by omega) (Or.inr (Or.inr (Or.inr (Or.inr (Or.inr (Or.inl ⟨j, hj, rfl, a, b⟩))))))
theorem E2.r {n : Nat} {m m' : Mem} {i i' : Nat} (h : E2 n m m' i i') (h5 : n ≤ 5) {j c y : Nat} (hj : j < n) (a : 1 ≤ c) (b : c ≤ 3) (d : y < 8) : m'.1 (LK i' j + c) y = m.1 (LK i j + c) y := by rw [LKo, LKo]; exact h (10 + 4 * j + c) y (by omega) (Or.inr (Or.inr (Or.inr (Or.inr (Or.inr (Or.inr ⟨j, c, hj, a, b, rfl, d⟩))))))
theorem E2.us {n : Nat} {m m' : Mem} {i i' : Nat} (h : E2 n m m' i i') (o f : Nat) {v v' : Int32} (e : v' = v) : E2 n (up m (LA i + o) f v) (up m' (LA i' + o) f v') i i' := by
  subst e
  intro o2 f2 ho hr
  by_cases e1 : o2 = o
  · subst e1
    by_cases e2 : f2 = f
    · subst e2; rw [up_same, up_same]
    · rw [up_slot _ _ _ e2, up_slot _ _ _ e2]; exact h _ _ ho hr
  · rw [up_cell _ _ _ (by omega), up_cell _ _ _ (by omega)]; exact h _ _ ho hr
theorem E2.rs {n : Nat} {m m' : Mem} {i i' : Nat} (h : E2 n m m' i i') (o : Nat) {F F' : Nat → Int32} (e : ∀ f, rl n o f → F' f = F f) : E2 n (setRow m (LA i + o) F) (setRow m' (LA i' + o) F') i i' := by
  intro o2 f2 ho hr
  by_cases e1 : o2 = o
  · subst e1
    rw [setRow_same, setRow_same]
    exact e _ hr
  · rw [setRow_cell _ _ (by omega), setRow_cell _ _ (by omega)]; exact h _ _ ho hr
theorem E2.upK {n : Nat} {m m' : Mem} {i i' : Nat} (h : E2 n m m' i i') (j c f : Nat) {v v' : Int32} (e : v' = v) : E2 n (up m (LK i j + c) f v) (up m' (LK i' j + c) f v') i i' := by rw [LKo, LKo]; exact h.us _ _ e
theorem E2.upL {n : Nat} {m m' : Mem} {i i' : Nat} (h : E2 n m m' i i') (j f : Nat) {v v' : Int32} (e : v' = v) : E2 n (up m (LK i j) f v) (up m' (LK i' j) f v') i i' := by rw [LKo0, LKo0]; exact h.us _ _ e
theorem E2.up0 {n : Nat} {m m' : Mem} {i i' : Nat} (h : E2 n m m' i i') (f : Nat) {v v' : Int32} (e : v' = v) : E2 n (up m (LA i) f v) (up m' (LA i') f v') i i' := h.us 0 f e
theorem rl_row {n j c f : Nat} (h5 : n ≤ 5) (hj : j < n) (c1 : 1 ≤ c) (c3 : c ≤ 3) (h : rl n (10 + 4 * j + c) f) : f < 8 := by
  rcases h with ⟨_, _⟩ | ⟨_, _⟩ | ⟨_, _⟩ | ⟨_, _⟩ | ⟨_, _, _⟩ | ⟨j2, _, _, _⟩ | ⟨j2, c2, _, _, _, _, _⟩ <;> omega
theorem E2.rowK {n : Nat} {m m' : Mem} {i i' : Nat} (h : E2 n m m' i i') (h5 : n ≤ 5) {j c : Nat} (hj : j < n) (c1 : 1 ≤ c) (c3 : c ≤ 3) {F F' : Nat → Int32} (e : ∀ y, y < 8 → F' y = F y) : E2 n (setRow m (LK i j + c) F) (setRow m' (LK i' j + c) F') i i' := by
  rw [LKo, LKo]
  exact h.rs _ (fun f hr => e f (rl_row h5 hj c1 c3 hr))
theorem E2.ny {n : Nat} {m m' : Mem} {i i' : Nat} (h : E2 n m m' i i') (h5 : n ≤ 5) {j : Nat} (hj : j < n) : nLy m' i' j = nLy m i j := by unfold nLy; rw [h.k h5 hj (by omega) (by omega)]
theorem upto_eq {N : Nat} {f f' f0 f0' : Nat → Int32} (h1 : ∀ y, y < N → y < 8 → f' y = f y) (h2 : ∀ y, y < 8 → f0' y = f0 y) : ∀ y, y < 8 → upto N f' f0' y = upto N f f0 y := by
  intro y hy
  unfold upto
  by_cases h : y < N
  · rw [if_pos h, if_pos h]; exact h1 y h hy
  · rw [if_neg h, if_neg h]; exact h2 y hy
theorem nbr_eq {T T' : Nat → Int32} {N y : Nat} (hN : N ≤ 8) (h : ∀ y, y < 8 → T' y = T y) : (if y + 1 < N then T' (y + 1) else 0) = (if y + 1 < N then T (y + 1) else 0) := by
  by_cases h1 : y + 1 < N
  · rw [if_pos h1, if_pos h1, h _ (by omega)]
  · rw [if_neg h1, if_neg h1]
theorem mvT_eq {a : Int32} {T T' : Nat → Int32} {N : Nat} (hN : N ≤ 8) (h : ∀ y, y < 8 → T' y = T y) : ∀ y, y < N → mvT a T' N y = mvT a T N y := by
  intro y hy
  have e1 : (if y = 0 then a else T' (y - 1)) = (if y = 0 then a else T (y - 1)) := by
    by_cases h0 : y = 0
    · rw [if_pos h0, if_pos h0]
    · rw [if_neg h0, if_neg h0, h _ (by omega)]
  unfold mvT
  rw [e1, nbr_eq hN h, h y (by omega)]
theorem addS_eq {T T' S S' : Nat → Int32} {N : Nat} (hN : N ≤ 8) (h : ∀ y, y < 8 → T' y = T y) (hs : ∀ y, y < 8 → S' y = S y) : ∀ y, y < N → addS T' S' N y = addS T S N y := by
  intro y hy
  unfold addS
  rw [nbr_eq hN h, h y (by omega), hs y (by omega)]
section LOC
variable {n : Nat} {m m' : Mem} {i i' j : Nat}
theorem E2.mv (h : E2 n m m' i i') (h5 : n ≤ 5) (hj : j < n) {N : Nat} (hN : N ≤ 8) (a : Int32) : E2 n (mvM i j N a m) (mvM i' j N a m') i i' := by
  have e : ∀ y, y < 8 → m'.1 (LK i' j + 2) y = m.1 (LK i j + 2) y := fun y hy => h.r h5 hj (by omega) (by omega) hy
  exact h.rowK h5 hj (by omega) (by omega) (upto_eq (fun y hy _ => mvT_eq hN e y hy) e)
theorem E2.st (h : E2 n m m' i i') (h5 : n ≤ 5) (hj : j < n) {N : Nat} (hN : N ≤ 8) : E2 n (stM i j N m) (stM i' j N m') i i' := by
  have e : ∀ y, y < 8 → m'.1 (LK i' j + 2) y = m.1 (LK i j + 2) y := fun y hy => h.r h5 hj (by omega) (by omega) hy
  have e3 : ∀ y, y < 8 → m'.1 (LK i' j + 3) y = m.1 (LK i j + 3) y := fun y hy => h.r h5 hj (by omega) (by omega) hy
  exact h.rowK h5 hj (by omega) (by omega) (upto_eq (fun y hy _ => addS_eq hN e e3 y hy) e3)
theorem E2.l2 (h : E2 n m m' i i') (h5 : n ≤ 5) (hj : j < n) (hN : nLy m i j ≤ 8) (rest : Bool) : E2 n (lk2 i j rest m) (lk2 i' j rest m') i i' := by
  have ea : m'.1 (LA i') 2 = m.1 (LA i) 2 := h.f (by omega) (by omega)
  unfold lk2
  rw [h.ny h5 hj, ea]
  cases rest
  · rw [if_neg (by decide), if_neg (by decide)]
    exact (h.mv h5 hj hN _).st h5 hj hN
  · rw [if_pos rfl, if_pos rfl]
    exact h.mv h5 hj hN _
theorem E2.push (h : E2 n m m' i i') (h5 : n ≤ 5) (hj : j < n) {N : Nat} (hN : N ≤ 8) (x : Int32) : E2 n (pushM i j N x m) (pushM i' j N x m') i i' := by
  unfold pushM
  by_cases hx : 0 ≤ x ∧ x < nI N
  · have hq := idx_of hx (by omega)
    rw [if_pos hx, if_pos hx]
    exact h.upK j 3 _ (by rw [h.r h5 hj (by omega) (by omega) (by omega)])
  · rw [if_neg hx, if_neg hx]; exact h
theorem E2.rc (h : E2 n m m' i i') {w cn : Nat} {kd lk pt hr : Int32} : E2 n (recM i w cn kd lk pt hr m) (recM i' w cn kd lk pt hr m') i i' := by
  unfold recM
  exact ((((((h.us 6 w rfl).us 7 w rfl).us 8 w rfl).us 9 w rfl).us 5 5 rfl).us 5 4 rfl)
theorem E2.w (h : E2 n m m' i i') : wOf m' i' = wOf m i := by unfold wOf; rw [h 5 5 (by omega) (Or.inr (Or.inr (Or.inr (Or.inl ⟨rfl, by omega, by omega⟩))))]
theorem E2.c (h : E2 n m m' i i') : cOf m' i' = cOf m i := by unfold cOf; rw [h 5 4 (by omega) (Or.inr (Or.inr (Or.inr (Or.inl ⟨rfl, by omega, by omega⟩))))]
theorem E2.pit (h : E2 n m m' i i') (h5 : n ≤ 5) (hj : j < n) {q : Nat} (hq : q < 8) : ckPitch m' i' j q = ckPitch m i j q := by
  unfold ckPitch pitchV
  rw [h.r h5 hj (c := 2) (by omega) (by omega) hq, h.r h5 hj (c := 1) (by omega) (by omega) hq]
theorem E2.cks (h : E2 n m m' i i') (h5 : n ≤ 5) (hj : j < n) {N q : Nat} (hN : N ≤ 8) (hq : q < N) (num hr : Int32) : E2 n (ckStep num hr i j N q m) (ckStep num hr i' j N q m') i i' := by
  unfold ckStep
  rw [h.r h5 hj (c := 3) (by omega) (by omega) (show q < 8 by omega), h.w, h.c, h.pit h5 hj (show q < 8 by omega)]
  by_cases hc : 30 ≤ m.1 (LK i j + 3) q
  · rw [if_pos hc, if_pos hc]
    exact ((h.rc.upK j 3 q rfl).push h5 hj hN _).push h5 hj hN _
  · rw [if_neg hc, if_neg hc]; exact h
theorem E2.ck (h : E2 n m m' i i') (h5 : n ≤ 5) (hj : j < n) {N : Nat} (hN : N ≤ 8) (num hr : Int32) : ∀ q, q ≤ N → E2 n (ckM num hr i j N m q) (ckM num hr i' j N m' q) i i' ∧ ckN num hr i' j N m' q = ckN num hr i j N m q
  | 0, _ => ⟨h, rfl⟩
  | q + 1, hq => by
    obtain ⟨h1, h2⟩ := E2.ck h h5 hj hN num hr q (by omega)
    refine ⟨h1.cks h5 hj hN (by omega) num hr, ?_⟩
    show ckN num hr i' j N m' q + _ = ckN num hr i j N m q + _
    rw [h2, h1.r h5 hj (c := 3) (by omega) (by omega) (show q < 8 by omega)]
theorem E2.ckE (h : E2 n m m' i i') (h5 : n ≤ 5) (hj : j < n) {N : Nat} (hN : N ≤ 8) (num hr : Int32) : E2 n (ckEnd num hr i j N m) (ckEnd num hr i' j N m') i i' := by
  obtain ⟨h1, h2⟩ := h.ck h5 hj hN num hr N (Nat.le_refl _)
  unfold ckEnd
  exact h1.upL j 5 (by rw [h2, h1.k h5 hj (by omega) (by omega)])
theorem E2.drop (h : E2 n m m' i i') (h5 : n ≤ 5) (hj : j < n) {N : Nat} (hN : N ≤ 8) (h0 : 0 < N) : E2 n (dropM i j N m) (dropM i' j N m') i i' := by
  have e : ∀ c, 1 ≤ c → c ≤ 3 → ∀ y, y < 8 → shiftRow (m'.1 (LK i' j + c)) (N - 1) y = shiftRow (m.1 (LK i j + c)) (N - 1) y := fun c c1 c3 => upto_eq (fun y hy _ => h.r h5 hj c1 c3 (by omega)) (fun y hy => h.r h5 hj c1 c3 hy)
  unfold dropM
  exact (((h.upL j 3 rfl).rowK h5 hj (by omega) (by omega) (e 1 (by omega) (by omega))).rowK h5 hj (by omega) (by omega) (e 2 (by omega) (by omega))).rowK h5 hj (by omega) (by omega) (e 3 (by omega) (by omega))
theorem E2.thaw (h : E2 n m m' i i') (h5 : n ≤ 5) (hj : j < n) {N : Nat} (hN : N ≤ 8) (a : Int32) : E2 n (thawM i j N a m) (thawM i' j N a m') i i' ∧ thawV i' j N a m' = thawV i j N a m := by
  unfold thawM thawV
  rw [h.r h5 hj (c := 2) (by omega) (by omega) (show 0 < 8 by omega), h.r h5 hj (c := 1) (by omega) (by omega) (show 0 < 8 by omega)]
  by_cases hc : N = 0 ∨ a ≤ 0 ∨ ¬ m.1 (LK i j + 2) 0 = 0
  · rw [if_pos hc, if_pos hc, if_pos hc]; exact ⟨h, rfl⟩
  · rw [if_neg hc, if_neg hc, if_neg hc]
    refine ⟨?_, rfl⟩
    by_cases h1 : m.1 (LK i j + 1) 0 - 1 ≤ 0
    · rw [if_pos h1, if_pos h1]
      exact (h.upK j 1 0 rfl).drop h5 hj hN (by omega)
    · rw [if_neg h1, if_neg h1]
      exact h.upK j 1 0 rfl
theorem E2.lk (h : E2 n m m' i i') (h5 : n ≤ 5) (hj : j < n) (hN : nLy m i j ≤ 8) (rest : Bool) : E2 n (lkStep i j rest m) (lkStep i' j rest m') i i' ∧ lkN i' j rest m' = lkN i j rest m := by
  have e2 : m'.1 (LA i') 2 = m.1 (LA i) 2 := h.f (by omega) (by omega)
  have e3 : m'.1 (LA i') 3 = m.1 (LA i) 3 := h.f (by omega) (by omega)
  have e5 : m'.1 (LA i') 5 = m.1 (LA i) 5 := h.f (by omega) (by omega)
  have h2 := h.l2 h5 hj hN rest
  have h3 : E2 n (lk3 i j rest m) (lk3 i' j rest m') i i' := by
    unfold lk3
    rw [h.ny h5 hj, e3]
    exact h2.ckE h5 hj hN _ _
  obtain ⟨h4, h6⟩ := h3.thaw h5 hj hN (m.1 (LA i) 2)
  constructor
  · unfold lkStep
    rw [h.ny h5 hj, e2]
    exact h4.up0 5 (by rw [e5, h6])
  · unfold lkN
    rw [h.ny h5 hj, e3]
    exact (h2.ck h5 hj hN _ _ _ (Nat.le_refl _)).2
end LOC
theorem meetB_eq {F F' L L' : Nat → Int32} {a b : Int32} : ∀ n, (∀ w, w < n → F' w = F w ∧ L' w = L w) → meetB F' L' a b n = meetB F L a b n
  | 0, _ => rfl
  | n + 1, h => by
    show (meetB F' L' a b n || _) = (meetB F L a b n || _)
    rw [meetB_eq n (fun w hw => h w (by omega)), (h n (by omega)).1, (h n (by omega)).2]
theorem E2.lks {n : Nat} {m m' : Mem} {i i' : Nat} (h : E2 n m m' i i') (hL : LW m i) (hn : nLk m i = n) (rest : Bool) : ∀ q, q ≤ n → E2 n (lksM i rest m q) (lksM i' rest m' q) i i' ∧ lksN i' rest m' q = lksN i rest m q
  | 0, _ => ⟨h, rfl⟩
  | q + 1, hq => by
    obtain ⟨h1, h2⟩ := E2.lks h hL hn rest q (by omega)
    obtain ⟨hL1, hn1⟩ := lks_LW (rest := rest) hL q (by omega)
    have h5 : n ≤ 5 := by have := hL.nl5; omega
    obtain ⟨h3, h4⟩ := h1.lk h5 (show q < n by omega) (hL1.ln (by omega)).2 rest
    refine ⟨h3, ?_⟩
    show lksN i' rest m' q + _ = lksN i rest m q + _
    rw [h2, h4]
theorem Sm.hour {m m' : Mem} {i i' : Nat} (hs : Sm m m' i i') (hL : LW m i) : Sm (hourM i m) (hourM i' m') i i' ∧ hourN i' m' = hourN i m := by
  have h := hs.e2
  have h0 : E2 (nLk m i) (hourM0 i m) (hourM0 i' m') i i' := h.up0 3 (by rw [h.f (by omega) (by omega)])
  obtain ⟨hL0, hn0⟩ := hour0_LW hL
  have hr : restB i' (hourM0 i' m') = restB i (hourM0 i m) := by
    have hs0 : Sm (hourM0 i m) (hourM0 i' m') i i' := by rw [← hn0] at h0; exact h0.sm (by rw [hn0]; exact hL.nl5)
    unfold restB
    rw [hs0.nw, hs0.f 3 (by omega) (by omega)]
    refine meetB_eq _ (fun w hw => ⟨hs0.w 3 (by omega) (by omega) w ?_, hs0.w 4 (by omega) (by omega) w ?_⟩) <;> have := hL0.wr.2 <;> omega
  obtain ⟨h1, h2⟩ := h0.lks hL0 hn0 (restB i (hourM0 i m)) (nLk m i) (Nat.le_refl _)
  have hnl := (hour_LW hL).2
  constructor
  · unfold hourM at hnl ⊢
    rw [hs.nl, hr]
    exact E2.sm (by rw [hnl]; exact h1) (by rw [hnl]; exact hL.nl5)
  · unfold hourN
    rw [hs.nl, hr]
    exact h2
theorem Sm.hours {m m' : Mem} {i i' : Nat} (hs : Sm m m' i i') (hL : LW m i) : ∀ q, Sm (hoursM i m q) (hoursM i' m' q) i i' ∧ hourN i' (hoursM i' m' q) = hourN i (hoursM i m q)
  | 0 => ⟨hs, (hs.hour hL).2⟩
  | q + 1 => by
    obtain ⟨h1, h2⟩ := Sm.hours hs hL q
    have h3 := h1.hour (hours_LW hL q).1
    exact ⟨h3.1, (h3.1.hour (hours_LW hL (q + 1)).1).2⟩
