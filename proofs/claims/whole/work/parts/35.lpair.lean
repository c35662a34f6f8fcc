/-! BOTH SIDES, call by call -/
def Bo (S R : ST) : Prop := Inv S ∧ Rel S R ∧ R.2.2.1 = none
theorem Bo.b1 {S R : ST} (h : Bo S R) : B1 R := h.2.1.b1 h.1
theorem Bo.thr {S R : ST} (h : Bo S R) (n : Int) : Bo S (thr R n) := h
def PairOk (X0m X1m : RI) (es : List (String × Int)) (is : List Int) (S R : ST) : Prop :=
  (∃ (v : Int) (S' : ST) (Q : Int → ST → Prop), X0m (vR 0 :: is.map vI) S (eqr v S') nox ∧ X1m (vR 0 :: is.map vI) R Q nox ∧ ∀ r R', Q r R' → r = v ∧ Bo S' R' ∧ fF R' 0 = 0) ∨
  (∃ q ∈ es, ∃ Q : Int → ST → Prop, (q.2 = 1 ∨ q.2 = 2) ∧ X0m (vR 0 :: is.map vI) S bo1 (eqx q.1 S) ∧ X1m (vR 0 :: is.map vI) R Q nox ∧ ∀ r R', Q r R' → Bo S R' ∧ fF R' 0 = q.2)
def PairTk (is : List Int) (S R : ST) : Prop :=
  (∃ (v : Int) (S' : ST) (Q : Int → ST → Prop), (v = 0 ∨ v = 1) ∧ X0_take (vR 0 :: is.map vI) S (eqr v S') nox ∧ X1_take (vR 0 :: is.map vI) R Q nox ∧ ∀ r R', Q r R' → r = v ∧ Bo S' R' ∧ fF R' 0 = 0) ∨
  (∃ q ∈ [(IOOB, (1 : Int)), (ISE, 2)], ∃ Q : Int → ST → Prop, (q.2 = 1 ∨ q.2 = 2) ∧ X0_take (vR 0 :: is.map vI) S bo1 (eqx q.1 S) ∧ X1_take (vR 0 :: is.map vI) R Q nox ∧ ∀ r R', Q r R' → Bo S R' ∧ fF R' 0 = q.2)
def PairAl (X0m X1m : RI) (es : List (String × Int)) (is : List Int) (S R : ST) : Prop :=
  (∃ (v : Int) (S' : ST) (Q : Int → ST → Prop), X0m (vR 0 :: is.map vI) S (eqr v S') nox ∧ X1m (vR 0 :: is.map vI) (cut0 R) Q nox ∧ ∀ r R', Q r R' → r = v ∧ Bo S' (dropT R') ∧ fF R' 0 = 0) ∨
  (∃ q ∈ es, ∃ Q : Int → ST → Prop, (q.2 = 1 ∨ q.2 = 2) ∧ X0m (vR 0 :: is.map vI) S bo1 (eqx q.1 S) ∧ X1m (vR 0 :: is.map vI) (cut0 R) Q nox ∧ ∀ r R', Q r R' → Bo S (dropT R') ∧ fF R' 0 = q.2)
/-- a read: the class answers v, or throws IndexOutOfBounds -/
theorem rd_ok {X0m X1m : RI} {es : List (String × Int)} {is : List Int} {S R : ST} {v w : Int} (h : Bo S R) (e : w = v) (h0 : X0m (vR 0 :: is.map vI) S (eqr v S) nox) (h1 : X1m (vR 0 :: is.map vI) R (eqr w (thr R 0)) nox) : PairOk X0m X1m es is S R := by
  refine Or.inl ⟨v, S, _, h0, h1, ?_⟩
  rintro r R' ⟨rfl, rfl⟩
  exact ⟨e, h.thr 0, rfl⟩
theorem rd_no {X0m X1m : RI} {E : String} {k : Int} {es : List (String × Int)} {is : List Int} {S R : ST} (h : Bo S R) (hm : (E, k) ∈ es) (hk : k = 1 ∨ k = 2) (h0 : X0m (vR 0 :: is.map vI) S bo1 (eqx E S)) (h1 : X1m (vR 0 :: is.map vI) R (eqr 0 (thr R k)) nox) : PairOk X0m X1m es is S R := by
  refine Or.inr ⟨(E, k), hm, _, hk, h0, h1, ?_⟩
  rintro r R' ⟨rfl, rfl⟩
  exact ⟨h.thr k, rfl⟩
theorem wr_ok {X0m X1m : RI} {es : List (String × Int)} {is : List Int} {S S' R : ST} {v : Int} (h : Bo S R) (hI : Inv S') (h0 : X0m (vR 0 :: is.map vI) S (eqr v S') nox) (h1 : X1m (vR 0 :: is.map vI) R (rsl v S' R) nox) : PairOk X0m X1m es is S R := by
  refine Or.inl ⟨v, S', _, h0, h1, ?_⟩
  rintro r R' ⟨h2, h3, h4, h5⟩
  exact ⟨h2, ⟨hI, h3, by rw [h5]; exact h.2.2⟩, h4⟩
theorem nat_of {a : Int} (h : 0 ≤ a) : ∃ n : Nat, a = n := ⟨a.toNat, by omega⟩
theorem pair_kind {S R : ST} {a b : Int} (h : Bo S R) (ha : rng a) (hb : rng b) : PairOk X0_kind X1_kind [(IAE, 1), (ISE, 2)] [a, b] S R := by
  have h0 := h.1.1.kc
  by_cases hz : (1 ≤ a ∧ a ≤ 32) ∧ 1 ≤ b ∧ b ≤ 16
  · obtain ⟨k, hk⟩ := nat_of h0.1
    by_cases h6 : k < 6
    · refine Or.inl ⟨k, kiT S k a b, _, run0_kind_ok hz.1 hz.2 hk h6, run1_kind_ok hz.1 hz.2 (h.2.1.1.1.trans hk) h6, ?_⟩
      rintro r R' ⟨rfl, rfl⟩
      exact ⟨rfl, ⟨Inv_kiT h.1 hk h6 hz.1 hz.2, (h.2.1.thr 0).ki, h.2.2⟩, rfl⟩
    · exact rd_no h (k := 2) (List.mem_of_getElem? (i := 1) rfl) (Or.inr rfl) (run0_kind_no2 hz.1 hz.2 (by omega)) (run1_kind_no2 hz.1 hz.2 (by rw [h.2.1.1.1]; omega))
  · exact rd_no h (k := 1) (List.mem_of_getElem? (i := 0) rfl) (Or.inl rfl) (run0_kind_no1 ha hb hz h.1.1) (run1_kind_no1 ha hb hz)
theorem pair_put {S R : ST} {a : Int} (h : Bo S R) (ha : rng a) : PairOk X0_put X1_put [(IOOB, 1), (ISE, 2)] [a] S R := by
  have h0 := h.1.1.kc
  have h1 := h.1.1.tc
  by_cases hz : 0 ≤ a ∧ a < fF S 0
  · obtain ⟨k, rfl⟩ := nat_of hz.1
    by_cases hf : fF S 10 ≥ 150 ∨ plC S k = -1
    · exact rd_no h (k := 2) (List.mem_of_getElem? (i := 1) rfl) (Or.inr rfl) (run0_put_no2 h.1.1 hz.2 hf) (run1_put_no2 h.1 h.2.1 hz.2 hf)
    · obtain ⟨t, ht⟩ := nat_of h1.1
      obtain ⟨p, hp⟩ : ∃ p : Nat, plC S k = p := by
        rcases plC_at h.1 hz.2 with z | ⟨p, -, z, -⟩
        · exact absurd (Or.inr z) hf
        · exact ⟨p, z⟩
      obtain ⟨c, c1, c2, c3, hI, hX⟩ := run0_put_ok h.1 hz.2 ht (by omega) hp
      exact wr_ok h hI hX (run1_put_ok h.1 h.2.1 hz.2 ht (by omega) hp c1 c2 c3)
  · exact rd_no h (k := 1) (List.mem_of_getElem? (i := 0) rfl) (Or.inl rfl) (run0_put_no1 ha h.1.1 hz) (run1_put_no1 ha (by rw [h.2.1.1.1]; exact hz) h.b1)
theorem pair_take {S R : ST} {a : Int} (h : Bo S R) (ha : rng a) : PairTk [a] S R := by
  have h1 := h.1.1.tc
  by_cases hz : 0 ≤ a ∧ a < fF S 10
  · obtain ⟨t, rfl⟩ := nat_of hz.1
    have ht : t < 150 := by omega
    have hth := h.1.1.th ht
    by_cases h12 : gA S 12 t = -1
    · refine Or.inr ⟨(ISE, 2), List.mem_of_getElem? (i := 1) rfl, _, Or.inr rfl, run0_take_no2 h.1.1 hz.2 h12, run1_take_no2 h.1 h.2.1 hz.2 h12, ?_⟩
      rintro r R' ⟨rfl, rfl⟩
      exact ⟨h.thr 2, rfl⟩
    · obtain ⟨p, hp⟩ : ∃ p : Nat, gA S 12 t = p := ⟨(gA S 12 t).toNat, by omega⟩
      obtain ⟨c, hc⟩ : ∃ c : Nat, gA S 13 t = c := ⟨(gA S 13 t).toNat, by omega⟩
      have h9 := (h.1.2.2.2.2.2.1 t ht hz.2).2 h12
      rw [hp, hc, Int.toNat_natCast, Int.toNat_natCast] at h9
      have a0 := run0_take_ok h.1 ht hz.2 (show p < 20 by omega) (show c < 64 by omega) hp hc
      have a1 := run1_take_ok h.1 h.2.1 ht hz.2 (show p < 20 by omega) (show c < 64 by omega) hp hc h9
      obtain ⟨hX, hx12⟩ := X_of_lift h.1 ht hz.2 (show p < 20 by omega) (show c < 64 by omega) hp hc h9
      have hI1 := Inv_of_X hX hx12
      by_cases hg : goB S t p
      · have e8 : gA (liT S t p c) 8 p = 0 := by
          have h81 := hg.1
          unfold liT
          rw [gA_o (by decide), gA_s]
          omega
        refine Or.inl ⟨1, _, _, Or.inr rfl, a0.2 hg, a1.2 hg, ?_⟩
        rintro r R' ⟨h2, h3, h4, h5⟩
        exact ⟨h2, ⟨Inv_drT hI1 (by omega) e8, h3, by rw [h5]; exact h.2.2⟩, h4⟩
      · refine Or.inl ⟨0, _, _, Or.inl rfl, a0.1 hg, a1.1 hg, ?_⟩
        rintro r R' ⟨h2, h3, h4, h5⟩
        exact ⟨h2, ⟨hI1, h3, by rw [h5]; exact h.2.2⟩, h4⟩
  · refine Or.inr ⟨(IOOB, 1), List.mem_of_getElem? (i := 0) rfl, _, Or.inl rfl, run0_take_no1 ha h.1.1 hz, run1_take_no1 ha (by rw [h.2.1.1.2.1]; exact hz) h.b1, ?_⟩
    rintro r R' ⟨rfl, rfl⟩
    exact ⟨h.thr 1, rfl⟩
theorem pkF_Inv {k : Nat} : ∀ (n : Nat) (S : ST), Inv S → (k : Int) < fF S 0 → Inv (pkF k n S).1
  | 0, S, hI, _ => hI
  | n + 1, S, hI, hk => by
    by_cases hgo : pkP S k = -1 ∨ pkQ S k = -1 ∨ pkP S k = pkQ S k
    · rw [pkF_s hgo]; exact hI
    · obtain ⟨p, q, hp, hq, e1, e2, hne, hpp, hqq, -, hm⟩ := pk_at hgo
      obtain ⟨hI2, -⟩ := mv_ok hI hp hq hk hpp hqq hne
      rw [pkF_g hgo, e1, e2, Int.toNat_natCast, Int.toNat_natCast]
      exact pkF_Inv n _ hI2 hk
theorem pair_pack {S R : ST} {a : Int} (h : Bo S R) (ha : rng a) : PairOk X0_pack X1_pack [(IOOB, 1)] [a] S R := by
  by_cases hz : 0 ≤ a ∧ a < fF S 0
  · obtain ⟨k, rfl⟩ := nat_of hz.1
    exact wr_ok h (Inv_mv (pkF_Inv 150 S h.1 hz.2)) (run0_pack_ok h.1 hz.2) (run1_pack_ok h.1 h.2.1 hz.2)
  · exact rd_no h (k := 1) (List.mem_of_getElem? (i := 0) rfl) (Or.inl rfl) (run0_pack_no ha h.1.1 hz) (run1_pack_no ha (by rw [h.2.1.1.1]; exact hz) h.b1)
theorem pair_told {S R : ST} {a b : Int} (h : Bo S R) (ha : rng a) (hb : rng b) : PairOk X0_told X1_told [(IOOB, 1)] [a, b] S R := by
  by_cases hz : (0 ≤ a ∧ a < fF S 10) ∧ 0 ≤ b ∧ b ≤ 4
  · obtain ⟨k, rfl⟩ := nat_of hz.1.1
    exact rd_ok h (h.2.1.told h.1 hz.1.2 b) (run0_told_ok hz.1.2 hz.2 h.1.1) (run1_told_ok (by rw [h.2.1.1.2.1]; exact hz.1.2) hz.2 h.b1)
  · exact rd_no h (k := 1) (List.mem_of_getElem? (i := 0) rfl) (Or.inl rfl) (run0_told_no ha hb hz h.1.1) (run1_told_no ha hb (by rw [h.2.1.1.2.1]; exact hz) h.b1)
theorem pair_tray {S R : ST} {a b : Int} (h : Bo S R) (ha : rng a) (hb : rng b) : PairOk X0_tray X1_tray [(IOOB, 1)] [a, b] S R := by
  by_cases hz : (0 ≤ a ∧ a < 20) ∧ 0 ≤ b ∧ b ≤ 4
  · obtain ⟨k, rfl⟩ := nat_of hz.1.1
    exact rd_ok h (h.2.1.tray h.1 (by omega) b) (run0_tray_ok (by omega) hz.2 h.1.1) (run1_tray_ok (by omega) hz.2 h.b1)
  · exact rd_no h (k := 1) (List.mem_of_getElem? (i := 0) rfl) (Or.inl rfl) (run0_tray_no ha hb hz) (run1_tray_no ha hb hz)
theorem pair_cell {S R : ST} {a b : Int} (h : Bo S R) (ha : rng a) (hb : rng b) : PairOk X0_cell X1_cell [(IOOB, 1)] [a, b] S R := by
  by_cases hz : (0 ≤ a ∧ a < 20) ∧ 0 ≤ b ∧ b < cellsC S a.toNat
  · obtain ⟨p, rfl⟩ := nat_of hz.1.1
    rw [Int.toNat_natCast] at hz
    have hp : p < 20 := by omega
    exact rd_ok h (h.2.1.cell h.1 hp (by omega)) (run0_cell_ok hb hp hz.2 h.1.1) (run1_cell_ok hb hp (by rw [h.2.1.cells h.1 hp]; exact hz.2) h.b1)
  · refine rd_no h (k := 1) (List.mem_of_getElem? (i := 0) rfl) (Or.inl rfl) (run0_cell_no ha hb hz h.1.1) (run1_cell_no ha hb (fun z => hz ⟨z.1, ?_⟩) h.b1)
    rw [← h.2.1.cells h.1 (by omega)]
    exact z.2
theorem pair_would {S R : ST} {a : Int} (h : Bo S R) (ha : rng a) : PairOk X0_would X1_would [(IOOB, 1)] [a] S R := by
  by_cases hz : 0 ≤ a ∧ a < fF S 0
  · obtain ⟨k, rfl⟩ := nat_of hz.1
    exact rd_ok h (h.2.1.pl h.1 hz.2) (run0_would_ok hz.2 h.1.1) (run1_would_ok (by rw [h.2.1.1.1]; exact hz.2) h.b1)
  · exact rd_no h (k := 1) (List.mem_of_getElem? (i := 0) rfl) (Or.inl rfl) (run0_would_no ha hz h.1.1) (run1_would_no ha (by rw [h.2.1.1.1]; exact hz) h.b1)
theorem pair_room {S R : ST} {a : Int} (h : Bo S R) (ha : rng a) : PairOk X0_room X1_room [(IOOB, 1)] [a] S R := by
  by_cases hz : 0 ≤ a ∧ a < fF S 0
  · obtain ⟨k, rfl⟩ := nat_of hz.1
    exact rd_ok h (h.2.1.room h.1 hz.2) (run0_room_ok hz.2 h.1.1) (run1_room_ok (by rw [h.2.1.1.1]; exact hz.2) h.b1)
  · exact rd_no h (k := 1) (List.mem_of_getElem? (i := 0) rfl) (Or.inl rfl) (run0_room_no ha hz h.1.1) (run1_room_no ha (by rw [h.2.1.1.1]; exact hz) h.b1)
theorem pair_spares {S R : ST} {a : Int} (h : Bo S R) (ha : rng a) : PairOk X0_spares X1_spares [(IOOB, 1)] [a] S R := by
  by_cases hz : 0 ≤ a ∧ a < fF S 0
  · obtain ⟨k, rfl⟩ := nat_of hz.1
    exact rd_ok h (h.2.1.spares h.1 hz.2) (run0_spares_ok hz.2 h.1.1) (run1_spares_ok (by rw [h.2.1.1.1]; exact hz.2) h.b1)
  · exact rd_no h (k := 1) (List.mem_of_getElem? (i := 0) rfl) (Or.inl rfl) (run0_spares_no ha hz h.1.1) (run1_spares_no ha (by rw [h.2.1.1.1]; exact hz) h.b1)
theorem Bo.cut {S R : ST} (h : Bo S R) : Bo S (cut0 R) := ⟨h.1, h.2.1.cg rfl rfl rfl rfl, rfl⟩
theorem Bo.drop {S R R' : ST} (h : Bo S R) (e1 : R'.1 = R.1) (e2 : R'.2.1 = R.2.1) : Bo S (dropT R') := ⟨h.1, h.2.1.cg rfl rfl e1 e2, rfl⟩
theorem pair_about {S R : ST} {a b : Int} (h : Bo S R) (ha : rng a) (hb : rng b) : PairAl X0_about X1_about [(IOOB, 1)] [a, b] S R := by
  have hc := h.cut
  by_cases hz : (0 ≤ a ∧ a < fF S 0) ∧ 0 ≤ b ∧ b ≤ 7
  · obtain ⟨k, rfl⟩ := nat_of hz.1.1
    refine Or.inl ⟨_, S, _, run0_about_ok hz.1.2 hz.2 h.1.1, run1_about_ok (R := cut0 R) rfl (by rw [hc.2.1.1.1]; exact hz.1.2) hz.2 hc.b1, ?_⟩
    rintro r R' ⟨rfl, e1, e2⟩
    exact ⟨hc.2.1.ab h.1 hz.1.2 b, (hc.thr 0).drop e1 e2, by show R'.1 0 = 0; rw [e1]; rfl⟩
  · refine Or.inr ⟨(IOOB, 1), List.mem_of_getElem? (i := 0) rfl, _, Or.inl rfl, run0_about_no ha hb hz h.1.1, run1_about_no (R := cut0 R) ha hb (by rw [hc.2.1.1.1]; exact hz) hc.b1, ?_⟩
    rintro r R' ⟨-, e1, e2⟩
    exact ⟨(hc.thr 1).drop e1 e2, by show R'.1 0 = 1; rw [e1]; rfl⟩
theorem pair_count {S R : ST} {a : Int} (h : Bo S R) (ha : rng a) : PairAl X0_count X1_count [(IOOB, 1)] [a] S R := by
  have hc := h.cut
  by_cases hz : 0 ≤ a ∧ a ≤ 6
  · refine Or.inl ⟨_, S, _, run0_count_ok hz h.1.1, run1_count_ok (R := cut0 R) rfl hz hc.b1, ?_⟩
    rintro r R' ⟨rfl, e1, e2⟩
    exact ⟨hc.2.1.co h.1 a, (hc.thr 0).drop e1 e2, by show R'.1 0 = 0; rw [e1]; rfl⟩
  · refine Or.inr ⟨(IOOB, 1), List.mem_of_getElem? (i := 0) rfl, _, Or.inl rfl, run0_count_no ha hz, run1_count_no (R := cut0 R) ha hz, ?_⟩
    rintro r R' ⟨-, e1, e2⟩
    exact ⟨(hc.thr 1).drop e1 e2, by show R'.1 0 = 1; rw [e1]; rfl⟩
/-- sweep, worst, mean, digest -/
theorem two_sweep {S R : ST} (h : Bo S R) : ∃ (v : Int) (S' : ST) (Q : Int → ST → Prop), rng v ∧ X0_sweep [vR 0] S (eqr v S') nox ∧ X1_sweep [vR 0] R Q nox ∧ ∀ r R', Q r R' → r = v ∧ Bo S' R' := by
  have hb : ∀ n : Nat, 0 ≤ (swF S n).2 ∧ (swF S n).2 ≤ n := by
    intro n
    induction n with
    | zero => exact ⟨Int.le_refl _, Int.le_refl _⟩
    | succ n ih =>
      by_cases z : gA (swF S n).1 6 n ≠ -1 ∧ gA (swF S n).1 8 n = 0
      · rw [swF_y z]; show 0 ≤ (swF S n).2 + 1 ∧ (swF S n).2 + 1 ≤ _; omega
      · rw [swF_n z]; omega
  have := hb 20
  refine ⟨_, _, _, ⟨by omega, by omega⟩, run0_sweep h.1.1, run1_sweep h.1 h.2.1, ?_⟩
  rintro r R' ⟨h2, h3, h4, h5⟩
  exact ⟨h2, Inv_swF h.1 20 (Nat.le_refl _), h3, by rw [h5]; exact h.2.2⟩
theorem woF_c {w : Nat → Int} : ∀ n : Nat, -1 ≤ (woF w n).1 ∧ (woF w n).1 < n
  | 0 => ⟨by simp [woF], by simp [woF]⟩
  | n + 1 => by
    have := woF_c (w := w) n
    unfold woF
    split
    · show -1 ≤ (n : Int) ∧ (n : Int) < _; omega
    · omega
theorem two_worst {S R : ST} (h : Bo S R) : ∃ (v : Int) (S' : ST) (Q : Int → ST → Prop), rng v ∧ X0_worst [vR 0] S (eqr v S') nox ∧ X1_worst [vR 0] R Q nox ∧ ∀ r R', Q r R' → r = v ∧ Bo S' R' := by
  have h0 := h.1.1.kc
  have hb := woF_c (w := wbC S) (fF S 0).toNat
  refine ⟨_, _, _, ⟨by omega, by omega⟩, run0_worst h.1.1, run1_worst h.b1, ?_⟩
  rintro r R' ⟨rfl, rfl⟩
  exact ⟨h.2.1.worst, h.thr 0⟩
theorem mn_dcmp : (List.range 151).all (fun a => (List.range 20).all (fun b => decide (FP.dcmp (FP.ddiv (FP.i2d (iI (a : Int))) (FP.i2d (iI ((b + 1 : Nat) : Int)))) (FP.ddiv (FP.i2d (iI (a : Int))) (FP.i2d (iI ((b + 1 : Nat) : Int)))) = some .eq))) = true := by decide +kernel
theorem two_mean {S R : ST} (h : Bo S R) : ∃ (v : UInt64) (Q : UInt64 → ST → Prop), FP.dcmp v v = some .eq ∧ X0_mean [vR 0] S (eqd v S) nox ∧ X1_mean [vR 0] (cut0 R) Q nox ∧ ∀ r R', Q r R' → r = v ∧ Bo S (dropT R') := by
  have hc := h.cut
  obtain ⟨e1, e2, e3⟩ := hc.2.1.three h.1
  have hk := cK_b (gA S 6) (-1) 20
  have ht : 0 ≤ sm (fun k => sK (gA S 6) (gA S 8) k 20) (fF S 0).toNat ∧ sm (fun k => sK (gA S 6) (gA S 8) k 20) (fF S 0).toNat ≤ 150 := by
    have h7 := h.1.2.2.2.2.2.2
    have h1 := h.1.1.tc
    rw [← e2, h.cut.2.1.f5, h.cut.2.1.f7]
    have a1 : ∀ n : Nat, n ≤ 20 → 0 ≤ sN (gA S 6) (gA S 8) n ∧ sN (gA S 6) (gA S 8) n ≤ sm (gA S 8) n := by
      intro n
      induction n with
      | zero => exact fun _ => ⟨Int.le_refl _, Int.le_refl _⟩
      | succ n ih =>
        intro hn
        have h8 := (h.1.1.pl (show n < 20 by omega)).2
        have h9 := ih (by omega)
        have e : sm (gA S 8) (n + 1) = sm (gA S 8) n + gA S 8 n := rfl
        by_cases z : gA S 6 n = -1
        · rw [sN_y z, e]; omega
        · rw [sN_n z, e]; omega
    have := a1 20 (Nat.le_refl _)
    omega
  have nn : 20 - cK (gA S 6) (-1) 20 ≠ 0 → vf_n64 (FP.ddiv (FP.i2d (iI (sm (fun k => sK (gA S 6) (gA S 8) k 20) (fF S 0).toNat))) (FP.i2d (iI (20 - cK (gA S 6) (-1) 20)))) := fun z => mn_ok ht ⟨by omega, by omega⟩
  have r1 := run1_mean (R := cut0 R) rfl hc.b1 (by rw [e1, e2]; exact nn)
  rw [e1, e2] at r1
  refine ⟨_, _, ?_, run0_mean h.1.1 nn, r1, ?_⟩
  · unfold meV
    by_cases z : 20 - cK (gA S 6) (-1) 20 = 0
    · rw [if_pos z]; decide +kernel
    · rw [if_neg z]
      have h1 := List.all_eq_true.mp mn_dcmp (sm (fun k => sK (gA S 6) (gA S 8) k 20) (fF S 0).toNat).toNat (List.mem_range.mpr (by omega))
      have h2 := List.all_eq_true.mp h1 ((20 - cK (gA S 6) (-1) 20).toNat - 1) (List.mem_range.mpr (by omega))
      have h3 := of_decide_eq_true h2
      rw [show (((sm (fun k => sK (gA S 6) (gA S 8) k 20) (fF S 0).toNat).toNat : Nat) : Int) = sm (fun k => sK (gA S 6) (gA S 8) k 20) (fF S 0).toNat by omega, show (((20 - cK (gA S 6) (-1) 20).toNat - 1 + 1 : Nat) : Int) = 20 - cK (gA S 6) (-1) 20 by omega] at h3
      exact h3
  · rintro r R' ⟨rfl, e3, e4⟩
    exact ⟨rfl, (hc.thr 0).drop e3 e4⟩
theorem two_digest {S R : ST} (h : Bo S R) : ∃ (v : Int64) (Q : Int64 → ST → Prop), X0_digest [vR 0] S (eql v S) nox ∧ X1_digest [vR 0] (cut0 R) Q nox ∧ ∀ r R', Q r R' → r = v ∧ Bo S (dropT R') := by
  have hc := h.cut
  refine ⟨_, _, run0_digest h.1.1, run1_digest (R := cut0 R) rfl hc.b1, ?_⟩
  rintro r R' ⟨rfl, e3, e4⟩
  exact ⟨hc.2.1.dg h.1, (hc.thr 0).drop e3 e4⟩
