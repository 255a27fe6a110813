/-! ===== how many lines there are ===== -/
theorem RD_ln (t : Int → Int) (n : Int) : ∀ (k : Nat), k ≤ 10 → ∀ (p R D H : Int), 0 ≤ (RD t n k p R D H).2.2.2.2 ∧ (RD t n k p R D H).2.2.2.2 ≤ 10
  | 0, _, p, R, D, H => ⟨Int.le_refl 0, by show (0 : Int) ≤ 10; decide⟩
  | k + 1, hk, p, R, D, H => by
    rw [RD_s]
    by_cases h1 : LK t n p R D H = 0
    · rw [if_pos h1]
      exact ⟨Int.le_refl 0, by show (0 : Int) ≤ 10; decide⟩
    · rw [if_neg h1]
      unfold AF
      by_cases h2 : SK t n (LE t n p) = n
      · rw [if_pos h2]
        exact ⟨by show 0 ≤ 10 - (k : Int); omega, by show 10 - (k : Int) ≤ 10; omega⟩
      · rw [if_neg h2]
        by_cases h3 : t (SK t n (LE t n p)) ≠ 59 ∨ k = 0
        · rw [if_pos h3]
          exact ⟨Int.le_refl 0, by show (0 : Int) ≤ 10; decide⟩
        · rw [if_neg h3]
          exact RD_ln t n k (by omega) _ _ _ _
theorem unk_all : ∀ (k : Fin 6) (w : Fin 8), (unk 8 ((k.val : Int) + 2) (w.val : Int) = 1 ∧ ((w.val : Int) = 0 ∨ ((w.val : Int) = 1 ∧ (k.val : Int) ≠ 5) ∨ ((w.val : Int) = 2 ∧ (k.val : Int) ≠ 2 ∧ (k.val : Int) ≠ 5) ∨ ((w.val : Int) = 3 ∧ ((k.val : Int) = 1 ∨ (k.val : Int) = 4)) ∨ ((w.val : Int) = 4 ∧ (k.val : Int) = 2) ∨ ((w.val : Int) = 5 ∧ (k.val : Int) = 3) ∨ ((w.val : Int) = 6 ∧ (k.val : Int) = 4) ∨ ((w.val : Int) = 7 ∧ (k.val : Int) = 5))) ∨ (unk 8 ((k.val : Int) + 2) (w.val : Int) = 0 ∧ ¬ ((w.val : Int) = 0 ∨ ((w.val : Int) = 1 ∧ (k.val : Int) ≠ 5) ∨ ((w.val : Int) = 2 ∧ (k.val : Int) ≠ 2 ∧ (k.val : Int) ≠ 5) ∨ ((w.val : Int) = 3 ∧ ((k.val : Int) = 1 ∨ (k.val : Int) = 4)) ∨ ((w.val : Int) = 4 ∧ (k.val : Int) = 2) ∨ ((w.val : Int) = 5 ∧ (k.val : Int) = 3) ∨ ((w.val : Int) = 6 ∧ (k.val : Int) = 4) ∨ ((w.val : Int) = 7 ∧ (k.val : Int) = 5))) := by decide +kernel
theorem unk_amk {k w : Int} (h0 : 0 ≤ k) (h1 : k ≤ 5) (h2 : 0 ≤ w) (h3 : w ≤ 7) : (unk 8 (k + 2) w = 1 ∧ amk k w) ∨ (unk 8 (k + 2) w = 0 ∧ ¬ amk k w) := by
  obtain ⟨k, rfl⟩ := b_fin (n := 6) h0 (by omega)
  obtain ⟨w, rfl⟩ := b_fin (n := 8) h2 (by omega)
  exact unk_all k w
theorem dd_eq {m : kM} (hY : DY m (m.2.1 4, m.2.1 5, m.2.1 6, m.2.1 7, m.1 12)) (r8 : m.1 8 = m.1 26) {a w x y : Int} (hA : CDZ m a w x) (hB : DDZ m a w y) : x = y := by
  unfold CDZ at hA
  unfold DDZ at hB
  by_cases q : 0 ≤ a ∧ a < m.1 26
  · have h := hY.1 a q.1 q.2
    have h1 : m.2.1 66 (4 * a) = m.2.1 4 a := h.1
    have h2 : m.2.1 66 (4 * a + 1) = m.2.1 5 a := h.2.1
    have h3 : m.2.1 66 (4 * a + 2) = m.2.1 6 a := h.2.2.1
    have h4 : m.2.1 66 (4 * a + 3) = m.2.1 7 a := h.2.2.2
    by_cases w0 : w = 0
    · subst w0
      rw [show 4 * a + 0 = 4 * a by omega] at hB
      omega
    · by_cases w1 : w = 1
      · subst w1
        omega
      · by_cases w2 : w = 2
        · subst w2
          omega
        · by_cases w3 : w = 3
          · subst w3
            omega
          · omega
  · omega
theorem as_eq {m : kM} (hm : kI m) (hD : kD m) (hY : DY m (m.2.1 4, m.2.1 5, m.2.1 6, m.2.1 7, m.1 12)) (r8 : m.1 8 = m.1 26) {a w x y : Int} (hA : ASZ m a w x) (hB : AMZ m a w y) : x = y := by
  unfold ASZ at hA
  unfold AMZ at hB
  by_cases q : 0 ≤ a ∧ a < m.1 26
  · have h := hY.1 a q.1 q.2
    have h1 : m.2.1 66 (4 * a) = m.2.1 4 a := h.1
    have h2 : m.2.1 66 (4 * a + 1) = m.2.1 5 a := h.2.1
    have h3 : m.2.1 66 (4 * a + 2) = m.2.1 6 a := h.2.2.1
    have hn := hD a q.1 q.2
    rw [h1, h2] at hn
    have hk := kI_door hm q.1 (by omega)
    rw [h3] at hB
    generalize m.2.1 6 a = k at hA hB hk
    generalize m.2.1 4 a = f at hA hk hn
    generalize m.2.1 5 a = s at hA hk hn
    have e1 : ((k = 0 ∨ k = 1 ∨ k = 3 ∨ k = 4) ∧ opk k f f 14 0 = 1) ∨ ((k = 2 ∨ k = 5) ∧ opk k f f 14 0 = 0) := by
      unfold opk
      (repeat' split) <;> omega
    have e2 : ((k = 0 ∨ k = 3 ∨ k = 4) ∧ opk k f s 14 0 = 1) ∨ ((k = 1 ∨ k = 2 ∨ k = 5) ∧ opk k f s 14 0 = 0) := by
      unfold opk
      (repeat' split) <;> omega
    rcases hB with hB | hB | ⟨b1, b2, b3, b4, b5, b6⟩ | ⟨b1, b2, b3, b4, b5, b6⟩
    · omega
    · omega
    · rcases unk_amk hk.1.1 hk.1.2 b3 b4 with ⟨u1, u2⟩ | ⟨u1, u2⟩
      · exact absurd u2 b5
      · omega
    · rcases unk_amk hk.1.1 hk.1.2 b3 b4 with ⟨u1, u2⟩ | ⟨u1, u2⟩
      · omega
      · exact absurd b5 u2
  · omega
theorem DY_mv {m m' : kM} (e26 : m'.1 26 = m.1 26) (e66 : m'.2.1 66 = m.2.1 66) (e30 : m'.1 30 = m.1 30) (e4 : m'.2.1 4 = m.2.1 4) (e5 : m'.2.1 5 = m.2.1 5) (e6 : m'.2.1 6 = m.2.1 6) (e7 : m'.2.1 7 = m.2.1 7) (e12 : m'.1 12 = m.1 12) (h : DY m (m.2.1 4, m.2.1 5, m.2.1 6, m.2.1 7, m.1 12)) : DY m' (m'.2.1 4, m'.2.1 5, m'.2.1 6, m'.2.1 7, m'.1 12) := by
  rw [kY_eq e4 e5 e6 e7 e12]
  exact DY_of e26 e66 e30 h
/-! doors lead to rooms that there are -/
def DV (m : kM) : Prop := ∀ d : Int, 0 ≤ d → d < m.1 8 → m.2.1 4 d < m.1 7 ∧ m.2.1 5 d < m.1 7
theorem LR_ok {t : Int → Int} {n p R D H : Int} (hR : 0 ≤ R) (hK : LK t n p R D H ≠ 0) : 0 ≤ LR t n p R := by
  unfold LR
  by_cases q : LW t n p = 6
  · rw [if_pos q]
    unfold LK at hK
    rw [if_neg (by omega), if_pos q] at hK
    have h := NUM_rng (t := t) (n := n) (lo := 2) (hi := 6) (p := EP t n p)
    by_cases e : NUM t n 2 6 (EP t n p) = -1
    · rw [if_pos e] at hK
      exact absurd rfl hK
    · omega
  · rw [if_neg q]
    exact hR
theorem LY_V {t : Int → Int} {n p R D : Int} {g : kY} (hR : 0 ≤ R) (hV : ∀ d : Int, 0 ≤ d → d < D → g.1 d < R ∧ g.2.1 d < R) : ∀ d : Int, 0 ≤ d → d < LD t n p D → (LY t n p R D g).1 d < LR t n p R ∧ (LY t n p R D g).2.1 d < LR t n p R := by
  intro d h0 h1
  unfold LD at h1
  unfold LY LR
  by_cases q : LW t n p = 6
  · rw [if_pos q] at h1
    exfalso
    omega
  · rw [if_neg q] at h1
    rw [if_neg q, if_neg q]
    by_cases q5 : LW t n p ≤ 5
    · rw [if_pos q5] at h1
      rw [if_pos q5]
      have n1 := NUM_rng (t := t) (n := n) (lo := 0) (hi := R - 1) (p := EP t n p)
      have n2 := NUM_rng (t := t) (n := n) (lo := 0) (hi := R - 1) (p := EP t n (EP t n p))
      show up g.1 D (NUM t n 0 (R - 1) (EP t n p)) d < R ∧ up g.2.1 D (NUM t n 0 (R - 1) (EP t n (EP t n p))) d < R
      by_cases e : d = D
      · rw [e, up_same, up_same]
        omega
      · rw [up_ne _ e, up_ne _ e]
        exact hV d h0 (by omega)
    · rw [if_neg q5] at h1
      rw [if_neg q5]
      by_cases q10 : LW t n p = 10
      · rw [if_pos q10]
        exact hV d h0 h1
      · rw [if_neg q10]
        exact hV d h0 h1
theorem RG_V (t : Int → Int) (n : Int) : ∀ (k : Nat) (p R D H : Int) (g : kY), 0 ≤ R → (∀ d : Int, 0 ≤ d → d < D → g.1 d < R ∧ g.2.1 d < R) → ∀ d : Int, 0 ≤ d → d < (RD t n k p R D H).2.2.1 → (RG t n k p R D H g).1 d < (RD t n k p R D H).2.1 ∧ (RG t n k p R D H g).2.1 d < (RD t n k p R D H).2.1
  | 0, p, R, D, H, g, _, _, d, h0, h1 => by
    have h1 : d < 0 := h1
    exfalso
    omega
  | k + 1, p, R, D, H, g, hR, hV, d, h0, h1 => by
    rw [RD_s] at h1
    rw [RD_s, RG_s]
    by_cases q1 : LK t n p R D H = 0
    · rw [if_pos q1] at h1
      have h1 : d < 0 := h1
      exfalso
      omega
    · rw [if_neg q1] at h1
      rw [if_neg q1, if_neg q1]
      unfold AF at h1
      unfold AF AG
      by_cases q2 : SK t n (LE t n p) = n
      · rw [if_pos q2] at h1
        rw [if_pos q2, if_pos q2]
        exact LY_V hR hV d h0 h1
      · rw [if_neg q2] at h1
        rw [if_neg q2, if_neg q2]
        by_cases q3 : t (SK t n (LE t n p)) ≠ 59 ∨ k = 0
        · rw [if_pos q3] at h1
          have h1 : d < 0 := h1
          exfalso
          omega
        · rw [if_neg q3] at h1
          rw [if_neg q3, if_neg q3]
          exact RG_V t n k _ _ _ _ _ (LR_ok hR q1) (LY_V hR hV) d h0 h1
theorem DV_mv {m m' : kM} (e7 : m'.1 7 = m.1 7) (e8 : m'.1 8 = m.1 8) (e4 : m'.2.1 4 = m.2.1 4) (e5 : m'.2.1 5 = m.2.1 5) (h : DV m) : DV m' := by
  unfold DV
  rw [e7, e8, e4, e5]
  exact h
theorem DV_rg {m m' : kM} {t : Int → Int} {n : Int} (hR : 0 ≤ m.1 7) (e7 : m'.1 7 = (RD t n 10 0 (m.1 7) (m.1 8) (m.1 10)).2.1) (e8 : m'.1 8 = (RD t n 10 0 (m.1 7) (m.1 8) (m.1 10)).2.2.1) (eG : (m'.2.1 4, m'.2.1 5, m'.2.1 6, m'.2.1 7, m'.1 12) = RG t n 10 0 (m.1 7) (m.1 8) (m.1 10) (m.2.1 4, m.2.1 5, m.2.1 6, m.2.1 7, m.1 12)) (h : DV m) : DV m' := by
  have e4 : m'.2.1 4 = (RG t n 10 0 (m.1 7) (m.1 8) (m.1 10) (m.2.1 4, m.2.1 5, m.2.1 6, m.2.1 7, m.1 12)).1 := congrArg (fun x : kY => x.1) eG
  have e5 : m'.2.1 5 = (RG t n 10 0 (m.1 7) (m.1 8) (m.1 10) (m.2.1 4, m.2.1 5, m.2.1 6, m.2.1 7, m.1 12)).2.1 := congrArg (fun x : kY => x.2.1) eG
  intro d h0 h1
  rw [e8] at h1
  rw [e7, e4, e5]
  exact RG_V t n 10 0 (m.1 7) (m.1 8) (m.1 10) (m.2.1 4, m.2.1 5, m.2.1 6, m.2.1 7, m.1 12) hR h d h0 h1
theorem HY_mv {m m' : kM} (e22 : m'.1 22 = m.1 22) (e32 : m'.2.1 32 = m.2.1 32) (e33 : m'.2.1 33 = m.2.1 33) (e73 : m'.2.1 73 = m.2.1 73) (h : HY m) : HY m' := by
  unfold HY
  rw [e22, e32, e33, e73]
  exact h
/-! nights alike -/
theorem ra_eq {m : kM} (hY : DY m (m.2.1 4, m.2.1 5, m.2.1 6, m.2.1 7, m.1 12)) (hH : HY m) (r8 : m.1 8 = m.1 26) (r22 : m.1 22 = m.1 39) {t d a : Int} (h0 : -1 ≤ d) (h1 : d = -1 ∨ d < m.1 8) : cRA m t d a = dRA m t d a := by
  unfold cRA dRA nra
  rw [nfit_ext (a' := fun j => m.2.1 73 (2 * j)) (b' := fun j => m.2.1 73 (2 * j + 1)) (fun j g0 g1 => ⟨(hH j g0 (by omega)).1.symm, (hH j g0 (by omega)).2.symm⟩), r22]
  have e : (if d = -1 then a else nKG (m.2.1 4) (m.2.1 5) (m.2.1 6) (m.1 8) d a) = (if d = -1 then a else nKG (fun j => m.2.1 66 (4 * j)) (fun j => m.2.1 66 (4 * j + 1)) (fun j => m.2.1 66 (4 * j + 2)) (m.1 26) d a) := by
    by_cases q : d = -1
    · rw [if_pos q, if_pos q]
    · rw [if_neg q, if_neg q]
      have h := hY.1 d (by omega) (by omega)
      have k1 : m.2.1 66 (4 * d) = m.2.1 4 d := h.1
      have k2 : m.2.1 66 (4 * d + 1) = m.2.1 5 d := h.2.1
      have k3 : m.2.1 66 (4 * d + 2) = m.2.1 6 d := h.2.2.1
      unfold nKG
      rw [if_pos (by omega), if_pos (by omega)]
      show kgk (m.2.1 6 d) (m.2.1 4 d) (m.2.1 5 d) a = kgk (m.2.1 66 (4 * d + 2)) (m.2.1 66 (4 * d)) (m.2.1 66 (4 * d + 1)) a
      rw [k1, k2, k3]
  rw [e]
theorem wt_eq {m : kM} (hY : DY m (m.2.1 4, m.2.1 5, m.2.1 6, m.2.1 7, m.1 12)) (hH : HY m) (r7 : m.1 7 = m.1 25) (r8 : m.1 8 = m.1 26) (r22 : m.1 22 = m.1 39) (t : Nat) (b : Int) : cWT m t b = dWT m t b := by
  have hk : m.1 30 = m.1 12 := hY.2
  unfold cWT dWT
  rw [← r7, ← r8, hk]
  exact nwt_ext (fun t d a h0 h1 _ _ => ra_eq hY hH r8 r22 h0 (by omega)) t b
theorem wo_eq {m : kM} (hY : DY m (m.2.1 4, m.2.1 5, m.2.1 6, m.2.1 7, m.1 12)) (hH : HY m) (r7 : m.1 7 = m.1 25) (r8 : m.1 8 = m.1 26) (r22 : m.1 22 = m.1 39) (n : Int) (r : Nat) {a : Int} (h0 : 0 ≤ a) (h1 : a < m.1 7) : cWO m n r a = dWO m n r a := by
  unfold cWO dWO
  rw [← r7, ← r8]
  exact nwo_ext (fun t d a h0 h1 _ _ => ra_eq hY hH r8 r22 h0 (by omega)) r a h0 (by omega)
theorem dWT_of {m m' : kM} (e25 : m'.1 25 = m.1 25) (e26 : m'.1 26 = m.1 26) (e30 : m'.1 30 = m.1 30) (eR : dRA m' = dRA m) : dWT m' = dWT m := by
  unfold dWT
  rw [e25, e26, e30, eR]
theorem dWO_of {m m' : kM} (e25 : m'.1 25 = m.1 25) (e26 : m'.1 26 = m.1 26) (eR : dRA m' = dRA m) (n : Int) : dWO m' n = dWO m n := by
  unfold dWO
  rw [e25, e26, eR]
theorem ni_eq {m m' : kM} (hY : DY m (m.2.1 4, m.2.1 5, m.2.1 6, m.2.1 7, m.1 12)) (hH : HY m) (r7 : m.1 7 = m.1 25) (r8 : m.1 8 = m.1 26) (r22 : m.1 22 = m.1 39) (e25 : m'.1 25 = m.1 25) (e26 : m'.1 26 = m.1 26) (e30 : m'.1 30 = m.1 30) (e39 : m'.1 39 = m.1 39) (e66 : m'.2.1 66 = m.2.1 66) (e73 : m'.2.1 73 = m.2.1 73) {n w x y : Int} (hA : CNZ m n w x) (hB : DNZ m' n w y) : x = y := by
  have eW := dWT_of e25 e26 e30 (dRA_of e26 e39 e66 e73)
  unfold CNZ at hA
  unfold DNZ at hB
  rw [eW, e25] at hB
  have e1 : nsm (cWT m n.toNat) (m.1 7).toNat = nsm (dWT m n.toNat) (m.1 25).toNat := by
    rw [r7]
    exact nsm_ext (fun j _ _ => wt_eq hY hH r7 r8 r22 n.toNat j)
  have e2 : nbt (fun x => nwr (cWT m n.toNat x)) (m.1 7).toNat = nbt (fun x => nwr (dWT m n.toNat x)) (m.1 25).toNat := by
    rw [r7]
    refine nbt_ext (fun j _ _ => ?_)
    show nwr (cWT m n.toNat j) = nwr (dWT m n.toNat j)
    rw [wt_eq hY hH r7 r8 r22 n.toNat j]
  rw [e1, e2] at hA
  omega
theorem as_q {m : kM} (hY : DY m (m.2.1 4, m.2.1 5, m.2.1 6, m.2.1 7, m.1 12)) (hH : HY m) (r7 : m.1 7 = m.1 25) (r8 : m.1 8 = m.1 26) (r22 : m.1 22 = m.1 39) (n g : Int) : cQ m n g = dQ m n g := by
  unfold cQ dQ
  rw [← r7]
  refine nmx_ext (fun j j0 j1 => ?_)
  show nwr (cWT m g.toNat j * cWO m n (n - g).toNat j) = nwr (dWT m g.toNat j * dWO m n (n - g).toNat j)
  rw [wt_eq hY hH r7 r8 r22 g.toNat j, wo_eq hY hH r7 r8 r22 n (n - g).toNat j0 (by omega)]
theorem ask_eq {m m' : kM} (hY : DY m (m.2.1 4, m.2.1 5, m.2.1 6, m.2.1 7, m.1 12)) (hH : HY m) (r7 : m.1 7 = m.1 25) (r8 : m.1 8 = m.1 26) (r22 : m.1 22 = m.1 39) (e25 : m'.1 25 = m.1 25) (e26 : m'.1 26 = m.1 26) (e30 : m'.1 30 = m.1 30) (e39 : m'.1 39 = m.1 39) (e66 : m'.2.1 66 = m.2.1 66) (e73 : m'.2.1 73 = m.2.1 73) {n x y : Int} (hA : CAZ m n x) (hB : DAZ m' n y) : x = y := by
  have eR := dRA_of e26 e39 e66 e73
  have eW := dWT_of e25 e26 e30 eR
  have eO := dWO_of e25 e26 eR n
  have eQ : dQ m' n = dQ m n := by
    unfold dQ
    rw [eW, eO, e25]
  unfold CAZ at hA
  unfold DAZ at hB
  rw [eQ] at hB
  rw [nbm_ext (fun j _ _ => as_q hY hH r7 r8 r22 n j)] at hA
  omega
