/-! P29, PURE 6: sums in which one thing changes; acts, what they leave. -/
theorem sL_one {f g : Nat → Nat} {h : Nat} : ∀ (n k : Nat), k ≤ h → h < k + n → (∀ i, i ≠ h → g i = f i) → sL g n k + f h = sL f n k + g h
  | 0, k, h1, h2, _ => by omega
  | n + 1, k, h1, h2, e => by
    rw [sL, sL]
    by_cases c : k = h
    · subst c
      rw [sL_c n (k + 1) (fun i h3 h4 => e i (by omega))]; omega
    · have := sL_one n (k + 1) (by omega) (by omega) e
      rw [e k c]; omega
theorem sL_mono {f g : Nat → Nat} : ∀ (n k : Nat), (∀ i, k ≤ i → i < k + n → f i ≤ g i) → sL f n k ≤ sL g n k
  | 0, k, _ => Nat.le_refl _
  | n + 1, k, h => by
    have h1 := sL_mono n (k + 1) (fun i h1 h2 => h i (by omega) (by omega))
    have h2 := h k (by omega) (by omega)
    rw [sL, sL]; omega
theorem sL_get {f : Nat → Nat} {h : Nat} : ∀ (n k : Nat), k ≤ h → h < k + n → f h ≤ sL f n k
  | 0, k, h1, h2 => by omega
  | n + 1, k, h1, h2 => by
    rw [sL]
    by_cases c : k = h
    · subst c; omega
    · have := sL_get (f := f) (h := h) n (k + 1) (by omega) (by omega); omega
theorem bN_or (a : Int32) {h : Nat} (hh : h < 24) (i : Nat) : bN (a ||| ((1 : Int32) <<< (nI h &&& 31))) i = if i = h then 1 else bN a i := by
  unfold bN
  rw [bt_or, bt_shl hh]
  by_cases c : i = h
  · rw [decide_eq_true c, if_pos c]; simp
  · rw [decide_eq_false c, if_neg c]; simp
theorem oN_or {a : Int32} {h : Nat} (hh : h < 24) (hb : bt a h = false) : oN (a ||| ((1 : Int32) <<< (nI h &&& 31))) = oN a + 1 := by
  have e := sL_one (f := bN a) (g := bN (a ||| ((1 : Int32) <<< (nI h &&& 31)))) (h := h) 24 0 (by omega) (by omega) (fun i hi => by rw [bN_or a hh, if_neg hi])
  rw [bN_or a hh, if_pos rfl, show bN a h = 0 by unfold bN; rw [hb]; rfl, Nat.add_zero] at e
  exact e
theorem bN_nd (a : Int32) {h : Nat} (hh : h < 24) {i : Nat} (hi : i < 32) : bN (a &&& (((1 : Int32) <<< (nI h &&& 31)) ^^^ (-1))) i = if i = h then 0 else bN a i := by
  unfold bN
  rw [bt_and, bt_not1 hh hi]
  by_cases c : i = h
  · rw [decide_eq_false (fun z => z c), if_pos c]; simp
  · rw [decide_eq_true c, if_neg c]; simp
theorem sL_one' {f g : Nat → Nat} {h : Nat} : ∀ (n k : Nat), k ≤ h → h < k + n → (∀ i, k ≤ i → i < k + n → i ≠ h → g i = f i) → sL g n k + f h = sL f n k + g h
  | 0, k, h1, h2, _ => by omega
  | n + 1, k, h1, h2, e => by
    rw [sL, sL]
    by_cases c : k = h
    · subst c
      rw [sL_c n (k + 1) (fun i h3 h4 => e i (by omega) (by omega) (by omega))]; omega
    · have := sL_one' n (k + 1) (by omega) (by omega) (fun i h3 h4 h5 => e i (by omega) (by omega) h5)
      rw [e k (by omega) (by omega) c]; omega
theorem oN_nd (a : Int32) {h : Nat} (hh : h < 24) : oN (a &&& (((1 : Int32) <<< (nI h &&& 31)) ^^^ (-1))) + bN a h = oN a := by
  have e := sL_one' (f := bN a) (g := bN (a &&& (((1 : Int32) <<< (nI h &&& 31)) ^^^ (-1)))) (h := h) 24 0 (by omega) (by omega) (fun i _ h2 hi => by rw [bN_nd a hh (by omega), if_neg hi])
  rw [bN_nd a hh (by omega), if_pos rfl, Nat.add_zero] at e
  exact e
/-- standing complaints of a house against a mill, in an hour -/
def stV (v : Nat → Nat → Int32) (m h a : Nat) : Nat := bN (v 8 (8 * a + 2 * m + 0)) h + bN (v 8 (8 * a + 2 * m + 1)) h
theorem stV_le (v : Nat → Nat → Int32) (m h a : Nat) : stV v m h a ≤ 2 := by
  have h : bN (v 8 (8 * a + 2 * m + 0)) h + bN (v 8 (8 * a + 2 * m + 1)) h ≤ 1 + 1 := Nat.add_le_add (bN_le _ _) (bN_le _ _)
  exact h
section PTS
variable {v : Nat → Nat → Int32} {M N : Nat}
theorem stV_zN (V : VV v M N) {a m h : Nat} (h1 : N ≤ a) (ha : a < 10) (hm : m < 4) : stV v m h a = 0 := by
  unfold stV; rw [V.zN h1 ha hm (by omega), V.zN h1 ha hm (by omega), bN_0]
theorem c_stN (v : Nat → Nat → Int32) {a m k h : Nat} (ha : a < 10) (hm : m < 4) (hk : k < 2) (hh : h < 24) : mX4_stands v (nI a) (nI m) (nI k) (nI h) = nI (bN (v 8 (8 * a + 2 * m + k)) h) := by
  rw [c_stands v ha hm hk hh, bN]; split <;> rfl
theorem c_stF (v : Nat → Nat → Int32) {a m h : Nat} (ha : a < 10) (hm : m < 4) (hh : h < 24) : mX4_standingFor v (nI a) (nI m) (nI h) = nI (stV v m h a) := by
  unfold mX4_standingFor
  rw [tr_2]
  simp only [mX4_standingFor_6]
  rw [show (0 : Int32) + 1 = nI 1 from rfl, c_stN v ha hm (by omega) hh (k := 1), show (0 : Int32) = nI 0 from rfl, c_stN v ha hm (by omega) hh (k := 0)]
  unfold stV
  have h0 := bN_le (v 8 (8 * a + 2 * m + 0)) h
  have h1 := bN_le (v 8 (8 * a + 2 * m + 1)) h
  revert h0 h1
  generalize bN (v 8 (8 * a + 2 * m + 0)) h = A
  generalize bN (v 8 (8 * a + 2 * m + 1)) h = B
  intro h0 h1
  rcases (show A = 0 ∨ A = 1 by omega) with rfl | rfl <;> rcases (show B = 0 ∨ B = 1 by omega) with rfl | rfl <;> rfl
theorem pt_loop (v : Nat → Nat → Int32) {m h : Nat} (hm : m < 4) (hh : h < 24) : ∀ (n k s : Nat), k + n ≤ 10 → mX4_points_5 v (nI m) (nI h) (fun _ y => y) n (nI k) (nI s) = nI (s + sL (stV v m h) n k)
  | 0, k, s, _ => rfl
  | n + 1, k, s, hk => by
    rw [mX4_points_5, c_stF v (by omega) hm hh, nI_add, nI_s, pt_loop v hm hh n (k + 1) _ (by omega), sL]
    exact congrArg nI (Nat.add_assoc _ _ _)
theorem c_pts (v : Nat → Nat → Int32) {n m h : Nat} (e : v 10 0 = nI n) (hn : n ≤ 10) (hm : m < 4) (hh : h < 24) : mX4_points v (nI m) (nI h) = nI (sL (stV v m h) n 0) := by
  unfold mX4_points
  rw [e, tr_0 (by omega), show (0 : Int32) = nI 0 from rfl, pt_loop v hm hh n 0 0 (by omega), Nat.zero_add]
end PTS
theorem rec_0 (yy : Nat → Nat → Nat → Int32) (a : Int32) : (mX5_recorded yy a).1 = a ∧ (mX5_recorded yy a).2 0 = yy 0 := by
  unfold mX5_recorded
  split
  · exact ⟨rfl, rfl⟩
  · split
    · exact ⟨rfl, rfl⟩
    · exact ⟨rfl, rfl⟩
theorem RR_10 {xx : Nat → Nat → Nat → Int32} {x : Nat → Nat → Int32} (h : RR xx x) (f : Nat → Nat → Int32) : RR (setV xx 10 f) x := by
  have e : ∀ j, j ≠ 10 → setV xx 10 f j = xx j := fun j hj => setV_ne _ _ hj
  refine RR.mk (by rw [e 0 (by omega)]; exact h.now) h.ok (RG_c (fun j hj => e j (by omega)) rfl rfl h.rg) (SN_c (e 9 (by omega)) (e 2 (by omega)) rfl rfl h.sn) (TX_c (e 7 (by omega)) rfl rfl h.tx)
/-- what the law knows of the village beyond the ghost -/
def EX (e M N : Nat) (v : Nat → Nat → Int32) (w : Nat → Int32) : Prop := (v 9 0 = nI M ∧ M ≤ 4 ∧ v 10 0 = nI N ∧ N ≤ 10) ∧ (∀ h, h < 24 → w h = v 0 h) ∧ (∀ m, m < M → 1 ≤ nn (v 3 m)) ∧ (∀ m j, m < M → j < M → m ≠ j → v 4 m ≠ v 4 j) ∧ (∀ m j, m < N → j < N → m ≠ j → v 6 m ≠ v 6 j) ∧ (∀ m a, m < M → a < N → v 4 m ≠ v 6 a) ∧ (∀ k, k < 6 → ∃ n, n ≤ e ∧ v 2 k = nI n) ∧ (∀ a, a < 10 → ∃ n, n ≤ e ∧ v 7 a = nI n) ∧ (v 2 3).toInt ≤ (v 2 2).toInt ∧ (v 2 5).toInt ≤ (v 2 4).toInt ∧ (SS v : Int) ≤ (v 2 0).toInt
section EXA
variable {e M N : Nat} {v : Nat → Nat → Int32} {w : Nat → Int32}
theorem EX.cn (h : EX e M N v w) : v 9 0 = nI M ∧ M ≤ 4 ∧ v 10 0 = nI N ∧ N ≤ 10 := h.1
theorem EX.ew (h : EX e M N v w) : ∀ h, h < 24 → w h = v 0 h := h.2.1
theorem EX.h1 (h : EX e M N v w) : ∀ m, m < M → 1 ≤ nn (v 3 m) := h.2.2.1
theorem EX.mm (h : EX e M N v w) : ∀ m j, m < M → j < M → m ≠ j → v 4 m ≠ v 4 j := h.2.2.2.1
theorem EX.hh (h : EX e M N v w) : ∀ m j, m < N → j < N → m ≠ j → v 6 m ≠ v 6 j := h.2.2.2.2.1
theorem EX.mh (h : EX e M N v w) : ∀ m a, m < M → a < N → v 4 m ≠ v 6 a := h.2.2.2.2.2.1
theorem EX.ta (h : EX e M N v w) : ∀ k, k < 6 → ∃ n, n ≤ e ∧ v 2 k = nI n := h.2.2.2.2.2.2.1
theorem EX.va (h : EX e M N v w) : ∀ a, a < 10 → ∃ n, n ≤ e ∧ v 7 a = nI n := h.2.2.2.2.2.2.2.1
theorem EX.s23 (h : EX e M N v w) : (v 2 3).toInt ≤ (v 2 2).toInt := h.2.2.2.2.2.2.2.2.1
theorem EX.s45 (h : EX e M N v w) : (v 2 5).toInt ≤ (v 2 4).toInt := h.2.2.2.2.2.2.2.2.2.1
theorem EX.ss (h : EX e M N v w) : (SS v : Int) ≤ (v 2 0).toInt := h.2.2.2.2.2.2.2.2.2.2
/-- acts that leave the map and the winds -/
theorem EX.next (h : EX e M N v w) {v' : Nat → Nat → Int32} (hj : ∀ j, j = 0 ∨ j = 3 ∨ j = 4 ∨ j = 6 ∨ j = 9 ∨ j = 10 → v' j = v j) (ta : ∀ k, k < 6 → ∃ n, n ≤ e + 1 ∧ v' 2 k = nI n) (va : ∀ a, a < 10 → ∃ n, n ≤ e + 1 ∧ v' 7 a = nI n) (s23 : (v' 2 3).toInt ≤ (v' 2 2).toInt) (s45 : (v' 2 5).toInt ≤ (v' 2 4).toInt) (ss : (SS v' : Int) ≤ (v' 2 0).toInt) : EX (e + 1) M N v' w := by
  unfold EX
  rw [hj 0 (by omega), hj 3 (by omega), hj 4 (by omega), hj 6 (by omega), hj 9 (by omega), hj 10 (by omega)]
  exact ⟨h.cn, h.ew, h.h1, h.mm, h.hh, h.mh, ta, va, s23, s45, ss⟩
theorem EX.same (h : EX e M N v w) : EX (e + 1) M N v w :=
  h.next (fun _ _ => rfl) (fun k hk => by obtain ⟨n, h1, h2⟩ := h.ta k hk; exact ⟨n, by omega, h2⟩) (fun k hk => by obtain ⟨n, h1, h2⟩ := h.va k hk; exact ⟨n, by omega, h2⟩) h.s23 h.s45 h.ss
end EXA
/-- the law's state: the object beside a ghost, and the winds that the law keeps -/
def LI (e M N : Nat) (xx : Nat → Nat → Nat → Int32) : Prop := (∃ x, RR xx x) ∧ EX e M N (xx 0) (xx 10 0)
theorem LI.V {e M N : Nat} {xx : Nat → Nat → Nat → Int32} (h : LI e M N xx) : VV (xx 0) M N := by
  obtain ⟨⟨x, hx⟩, hE⟩ := h
  exact VV.of hx hE.cn.1 hE.cn.2.1 hE.cn.2.2.1 hE.cn.2.2.2
theorem LI.rg {e M N : Nat} {xx : Nat → Nat → Nat → Int32} (h : LI e M N xx) : rgOk xx := by
  obtain ⟨⟨x, hx⟩, hE⟩ := h
  exact rr_rg hx
theorem LI.all {e M N : Nat} {xx : Nat → Nat → Nat → Int32} (h : LI e M N xx) : mL_areAll xx = 1 := p_areAll h.V h.2.ew h.2.ss h.2.s23 h.2.s45
theorem LI.mill {e M N : Nat} {xx : Nat → Nat → Nat → Int32} (h : LI e M N xx) {m y : Nat} (hm : m < M) (hy : y < 96) : mL_isMill xx (nI m) (nI y) = 1 := p_isMill h.V h.2.ew h.2.h1 h.2.mm h.2.mh hm hy
theorem LI.house {e M N : Nat} {xx : Nat → Nat → Nat → Int32} (h : LI e M N xx) {a m : Nat} (ha : a < N) (hm : m < M) : mL_isHouse xx (nI a) (nI m) = 1 := p_isHouse h.V h.2.ew h.2.hh h.2.mh ha hm
theorem LI.hours {e M N : Nat} {xx : Nat → Nat → Nat → Int32} (h : LI e M N xx) {m : Nat} (hm : m < M) : mL_areHours xx (nI m) = 1 := p_areHours h.V h.2.ew hm
