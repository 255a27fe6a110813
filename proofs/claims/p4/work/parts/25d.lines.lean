/-! ===== contracts: the model, lines ===== -/
/-! rows of lines as they were noted, done one after the other -/
abbrev kU : Type := Int × (Int × Int)
def rw1 (w a : Int) (s : kU) : kU := if w = 0 then (a, 0, 0) else if w ≤ 6 then (s.1, s.2.1 + 1, s.2.2) else if w = 8 then (s.1, s.2.1, stb s.2.2 a) else s
def FD (f : Int → Int) : Nat → kU → kU
  | 0, s => s
  | k + 1, s => rw1 (f (4 * (k : Int))) (f (4 * (k : Int) + 1)) (FD f k s)
def VR (f : Int → Int) (k : Nat) (s : kU) : Prop := ∀ j : Nat, j < k → rv (f (4 * (j : Int))) (f (4 * (j : Int) + 1)) (f (4 * (j : Int) + 2)) (f (4 * (j : Int) + 3)) (FD f j s).2.1 (FD f j s).2.2
theorem FD_ext {f g : Int → Int} {s : kU} : ∀ {k : Nat}, (∀ j : Int, j < 4 * (k : Int) → f j = g j) → FD f k s = FD g k s
  | 0, _ => rfl
  | k + 1, h => by
    show rw1 (f (4 * (k : Int))) (f (4 * (k : Int) + 1)) (FD f k s) = rw1 (g (4 * (k : Int))) (g (4 * (k : Int) + 1)) (FD g k s)
    rw [h _ (by omega), h _ (by omega), FD_ext (fun j hj => h j (by omega))]
theorem VR_ext {f g : Int → Int} {s : kU} {k : Nat} (h : ∀ j : Int, j < 4 * (k : Int) → g j = f j) (hv : VR f k s) : VR g k s := by
  intro j hj
  rw [h _ (by omega), h _ (by omega), h _ (by omega), h _ (by omega), FD_ext (fun i hi => h i (by omega))]
  exact hv j hj
theorem VR_snoc {f g : Int → Int} {s : kU} {k : Nat} (h : ∀ j : Int, j < 4 * (k : Int) → g j = f j) (hv : VR f k s) (hn : rv (g (4 * (k : Int))) (g (4 * (k : Int) + 1)) (g (4 * (k : Int) + 2)) (g (4 * (k : Int) + 3)) (FD f k s).2.1 (FD f k s).2.2) : VR g (k + 1) s := by
  intro j hj
  by_cases e : j = k
  · subst e
    rw [FD_ext h]
    exact hn
  · exact VR_ext h hv j (by omega)
theorem FD_snoc {f g : Int → Int} {s : kU} {k : Nat} (h : ∀ j : Int, j < 4 * (k : Int) → g j = f j) : FD g (k + 1) s = rw1 (g (4 * (k : Int))) (g (4 * (k : Int) + 1)) (FD f k s) := by
  show rw1 _ _ (FD g k s) = _
  rw [FD_ext h]
def rw2 (w a b c D : Int) (g : kY) : kY := if w = 0 then (g.1, g.2.1, g.2.2.1, g.2.2.2.1, 0) else if w ≤ 6 then (up g.1 D a, up g.2.1 D b, up g.2.2.1 D (w - 1), up g.2.2.2.1 D c, g.2.2.2.2) else if w = 10 then (g.1, g.2.1, g.2.2.1, g.2.2.2.1, a) else g
def FY (f : Int → Int) : Nat → kU → kY → kY
  | 0, _, g => g
  | k + 1, s, g => rw2 (f (4 * (k : Int))) (f (4 * (k : Int) + 1)) (f (4 * (k : Int) + 2)) (f (4 * (k : Int) + 3)) (FD f k s).2.1 (FY f k s g)
theorem FY_ext {f g : Int → Int} {s : kU} {y : kY} : ∀ {k : Nat}, (∀ j : Int, j < 4 * (k : Int) → f j = g j) → FY f k s y = FY g k s y
  | 0, _ => rfl
  | k + 1, h => by
    show rw2 (f (4 * (k : Int))) (f (4 * (k : Int) + 1)) (f (4 * (k : Int) + 2)) (f (4 * (k : Int) + 3)) (FD f k s).2.1 (FY f k s y) = rw2 (g (4 * (k : Int))) (g (4 * (k : Int) + 1)) (g (4 * (k : Int) + 2)) (g (4 * (k : Int) + 3)) (FD g k s).2.1 (FY g k s y)
    rw [h _ (by omega), h _ (by omega), h _ (by omega), h _ (by omega), FD_ext (fun j hj => h j (by omega)), FY_ext (fun j hj => h j (by omega))]
theorem FY_step {f g : Int → Int} {s : kU} {N R D H : Int} {y : kY} (hN : 0 ≤ N) (h : ∀ j : Int, j < 4 * N → g j = f j) (hF : FD f N.toNat s = (R, D, H)) : FY g (N + 1).toNat s y = rw2 (g (4 * N)) (g (4 * N + 1)) (g (4 * N + 2)) (g (4 * N + 3)) D (FY f N.toNat s y) := by
  have e : (N + 1).toNat = N.toNat + 1 := by omega
  have e2 : ((N.toNat : Nat) : Int) = N := by omega
  rw [e]
  show rw2 (g (4 * ((N.toNat : Nat) : Int))) (g (4 * ((N.toNat : Nat) : Int) + 1)) (g (4 * ((N.toNat : Nat) : Int) + 2)) (g (4 * ((N.toNat : Nat) : Int) + 3)) (FD g N.toNat s).2.1 (FY g N.toNat s y) = _
  rw [FD_ext (g := f) (by rw [e2]; exact h), FY_ext (g := f) (by rw [e2]; exact h), e2, hF]
theorem stb_pcn_all : ∀ (u : Fin 64) (r : Fin 6), hb (u.val : Int) (r.val : Int) ≠ 1 → pcn (stb (u.val : Int) (r.val : Int)) = pcn (u.val : Int) + 1 := by decide +kernel
theorem stb_pcn {u r : Int} (hu0 : 0 ≤ u) (hu1 : u ≤ 63) (hr0 : 0 ≤ r) (hr1 : r ≤ 5) (h : hb u r ≠ 1) : pcn (stb u r) = pcn u + 1 := by
  obtain ⟨k, rfl⟩ := b_fin (n := 64) hu0 (by omega)
  obtain ⟨l, rfl⟩ := b_fin (n := 6) hr0 (by omega)
  exact stb_pcn_all k l h
set_option maxHeartbeats 8000000 in
theorem d_readsLine {V : cg_V} {d q : Nat} (hd : 5 ≤ d) (hq : 112 ≤ q) {m : kM} (hm : kI m) {p : Int} (ht : tk m p) (hr9 : m.1 24 ≤ 9) (hR : 2 ≤ m.1 34) (hp4 : pcn (m.1 36) ≤ 4) : cg_S V d q mX10_readsLine [vR 61] (kl m) (R_I (fun z m' => (kI m') ∧ (fr [24, 31, 32, 33, 34, 35, 36] [65] m m') ∧ ((z = 1 ∧ LK (m.2.1 64) (m.1 23) p (m.1 34) (m.1 35) (m.1 36) = 1 ∧ tk m' (LE (m.2.1 64) (m.1 23) p) ∧ m'.1 24 = m.1 24 + 1 ∧ m'.1 34 = LR (m.2.1 64) (m.1 23) p (m.1 34) ∧ m'.1 35 = LD (m.2.1 64) (m.1 23) p (m.1 35) ∧ m'.1 36 = LH (m.2.1 64) (m.1 23) p (m.1 34) (m.1 36) ∧ rv (m'.2.1 65 (4 * m.1 24)) (m'.2.1 65 (4 * m.1 24 + 1)) (m'.2.1 65 (4 * m.1 24 + 2)) (m'.2.1 65 (4 * m.1 24 + 3)) (m.1 35) (m.1 36) ∧ (m'.1 34, m'.1 35, m'.1 36) = rw1 (m'.2.1 65 (4 * m.1 24)) (m'.2.1 65 (4 * m.1 24 + 1)) (m.1 34, m.1 35, m.1 36) ∧ (∀ j : Int, j < 4 * m.1 24 → m'.2.1 65 j = m.2.1 65 j) ∧ (∀ g : kY, rw2 (m'.2.1 65 (4 * m.1 24)) (m'.2.1 65 (4 * m.1 24 + 1)) (m'.2.1 65 (4 * m.1 24 + 2)) (m'.2.1 65 (4 * m.1 24 + 3)) (m.1 35) g = LY (m.2.1 64) (m.1 23) p (m.1 34) (m.1 35) g)) ∨ (z = 0 ∧ LK (m.2.1 64) (m.1 23) p (m.1 34) (m.1 35) (m.1 36) = 0 ∧ m'.1 32 = LQ (m.2.1 64) (m.1 23) p (m.1 34) (m.1 35))))) := by
  have hf0 : fr [24, 31, 32, 33, 34, 35, 36] [65] m m := fr_rf m
  refine cg_of (List.mem_of_getElem? (show ae_MT[133]? = some mX10_readsLine from rfl)) (Nat.le_of_ble_eq_true rfl) ?_
  show cg_G V mX10_readsLine d q _ 0 [(0, vR 61)] [] (kl m) 0 0
  have h1 : 0 ≤ m.1 23 ∧ m.1 23 ≤ 200 := hm.1 23
  have h2 : 0 ≤ m.1 24 ∧ m.1 24 ≤ 10 := hm.1 24
  have h3 : 0 ≤ m.1 34 ∧ m.1 34 ≤ 6 := hm.1 34
  have h4 : 0 ≤ m.1 35 ∧ m.1 35 ≤ 10 := hm.1 35
  have h5 : 0 ≤ m.1 36 ∧ m.1 36 ≤ 63 := hm.1 36
  obtain ⟨hpn, hs, hp, ha⟩ := ht
  have hEr := EP_rng (t := m.2.1 64) hpn
  have hw35 : 0 ≤ m.1 35 ∧ m.1 35 ≤ 10 := hm.1 35
  refine g_aload_n (n := 0) rfl rfl ?_
  have h6 : 0 ≤ m.1 32 ∧ m.1 32 ≤ 200 := hm.1 32
  have h7 : 0 ≤ m.1 33 ∧ m.1 33 ≤ 200 := hm.1 33
  refine c_vI (i := 61) (ps := []) (r := []) (as := [vR 61]) (cs' := 0) (sl' := 0) rfl rfl rfl rfl rfl rfl (kl_61 _) (d_wordOf (d := d - 1) (q := q - (2 + 19)) (by omega) (by omega) hm  ) (by omega) (show 2 + 19 ≤ q by omega) (Nat.le_of_ble_eq_true rfl) (Nat.le_of_ble_eq_true rfl) rfl rfl rfl ?_
  rintro z8 m9 ⟨rfl, p11, p12, p13⟩
  refine g_istore_n (n := 1) (lo' := [(0, vR 61)]) rfl rfl ?_
  have hWL : LW (m.2.1 64) (m.1 23) p = WD (m.2.1 64) (m.1 32) (m.1 33) := by rw [hs, hp]; rfl
  have hw0 := p11
  rw [← hWL] at hw0
  clear p11
  refine g_iload_n (n := 1) rfl rfl ?_
  refine g_iconst rfl ?_
  refine g_icmp_eq (by omega) (by omega) (by decide) (by decide) rfl ?_ ?_
  · intro kk14
    refine g_iconst rfl ?_
    refine g_zret rfl rfl (by omega) ?_
    have hs0 : LK (m.2.1 64) (m.1 23) p (m.1 34) (m.1 35) (m.1 36) = 0 ∧ LQ (m.2.1 64) (m.1 23) p (m.1 34) (m.1 35) = SK (m.2.1 64) (m.1 23) p := by
      rcases hw0 with q | q | q | q
      · unfold LK LQ; rw [q.2, if_pos (show (-1 : Int) = -1 from rfl), if_pos (show (-1 : Int) = -1 from rfl)]; exact ⟨rfl, rfl⟩
      · exfalso; omega
      · unfold LK LQ; rw [q.2.2, if_neg (show ¬ ((z8 - 1) = -1) by omega), if_neg (show ¬ ((z8 - 1) = 6) by omega), if_neg (show ¬ ((z8 - 1) = 7 ∨ (z8 - 1) = 10) by omega), if_neg (show ¬ ((z8 - 1) = 8) by omega), if_neg (show ¬ ((z8 - 1) = 9) by omega), if_neg (show ¬ ((z8 - 1) = 11) by omega), if_pos (show 10 ≤ m.1 35 ∨ NUM (m.2.1 64) (m.1 23) 0 (m.1 34 - 1) (EP (m.2.1 64) (m.1 23) p) = -1 ∨ NUM (m.2.1 64) (m.1 23) 0 (m.1 34 - 1) (EP (m.2.1 64) (m.1 23) (EP (m.2.1 64) (m.1 23) p)) = -1 ∨ NUM (m.2.1 64) (m.1 23) 0 (m.1 34 - 1) (EP (m.2.1 64) (m.1 23) (EP (m.2.1 64) (m.1 23) p)) = NUM (m.2.1 64) (m.1 23) 0 (m.1 34 - 1) (EP (m.2.1 64) (m.1 23) p) ∨ NUM (m.2.1 64) (m.1 23) 0 1 (EP (m.2.1 64) (m.1 23) (EP (m.2.1 64) (m.1 23) (EP (m.2.1 64) (m.1 23) p))) = -1 by omega), if_neg (show ¬ ((z8 - 1) = -1) by omega), if_neg (show ¬ ((z8 - 1) = 6 ∨ (z8 - 1) = 7 ∨ (z8 - 1) = 8 ∨ (z8 - 1) = 9 ∨ (z8 - 1) = 10) by omega), if_neg (show ¬ ((z8 - 1) = 11) by omega), if_pos (show 10 ≤ m.1 35 by omega)]; exact ⟨rfl, rfl⟩
      · exfalso; omega
    exact ⟨_, _, rfl, hm, hf0, Or.inr ⟨rfl, hs0.1, by rw [hs0.2]; exact hs⟩⟩
  · intro kk15
    refine g_iload_n (n := 1) rfl rfl ?_
    refine c_sI (ps := [vI z8]) (r := []) (as := [vI z8]) (cs' := 0) (sl' := 0) rfl rfl rfl rfl rfl rfl (d_isDoorLine (d := d - 1) (q := q - (1 + 19)) (by omega) (by omega) hm (a := z8) (show (-2147483648) ≤ z8 ∧ z8 ≤ 2147483647 by omega)) (by omega) (show 1 + 19 ≤ q by omega) (Nat.le_of_ble_eq_true rfl) (Nat.le_of_ble_eq_true rfl) rfl rfl rfl ?_
    rintro z16 m17 ⟨rfl, p19⟩
    refine g_if_eq (by omega) (by omega) rfl ?_ ?_
    · intro kk20
      refine g_aload_n (n := 0) rfl rfl ?_
      have h21 : 0 ≤ m.1 31 ∧ m.1 31 ≤ 200 := hm.1 31
      refine c_vV (i := 61) (ps := []) (r := []) (as := [vR 61]) (cs' := 0) (sl' := 0) rfl rfl rfl rfl rfl rfl (kl_61 _) (d_token (d := d - 1) (q := q - (1 + 19)) (by omega) (by omega) hm  (show m.1 31 ≤ m.1 23 by omega)) (by omega) (show 1 + 19 ≤ q by omega) (Nat.le_of_ble_eq_true rfl) (Nat.le_of_ble_eq_true rfl) rfl rfl rfl ?_
      rintro m23 ⟨hm25, hc26, p27, p28, p29⟩
      have hf30 : fr [24, 31, 32, 33, 34, 35, 36] [65] m m23 := fr_tr hf0 (fr_le hc26 rfl rfl)
      have h31 : m23.1 23 = m.1 23 := hc26.1 23 rfl
      have h32 : 0 ≤ m23.1 23 ∧ m23.1 23 ≤ 200 := hm25.1 23
      have h33 : m23.1 24 = m.1 24 := hc26.1 24 rfl
      have h34 : 0 ≤ m23.1 24 ∧ m23.1 24 ≤ 10 := hm25.1 24
      have h35 : m23.1 34 = m.1 34 := hc26.1 34 rfl
      have h36 : 0 ≤ m23.1 34 ∧ m23.1 34 ≤ 6 := hm25.1 34
      have h37 : m23.1 35 = m.1 35 := hc26.1 35 rfl
      have h38 : 0 ≤ m23.1 35 ∧ m23.1 35 ≤ 10 := hm25.1 35
      have h39 : m23.1 36 = m.1 36 := hc26.1 36 rfl
      have h40 : 0 ≤ m23.1 36 ∧ m23.1 36 ≤ 63 := hm25.1 36
      have aT : m23.2.1 64 = m.2.1 64 := hc26.2.1 64 rfl
      have aN : m23.1 23 = m.1 23 := hc26.1 23 rfl
      have htk : tk m23 (EP (m.2.1 64) (m.1 23) p) := by unfold tk; rw [aT, aN, ← ha]; exact ⟨by omega, p27, p28, p29⟩
      refine g_aload_n (n := 0) rfl rfl ?_
      refine g_getf (v := vR 65) rfl (kl_61 _) rfl ?_
      refine g_iconst rfl ?_
      refine g_aload_n (n := 0) rfl rfl ?_
      refine g_getf (v := vI (m23.1 24)) rfl (kl_61 _) rfl ?_
      refine g_imul rfl ?_
      refine g_iload_n (n := 1) rfl rfl ?_
      refine g_iAst (f := m23.2.1 65) (m' := (kA m23 65 (up (m23.2.1 65) (4 * m23.1 24) z8))) rfl (kl_65 _) (by decide) (by omega) (by omega) (kA_65 _ _) ?_
      have hm41 : kI (kA m23 65 (up (m23.2.1 65) (4 * m23.1 24) z8)) := kI_U hm25 65 rfl (show ((-2147483648) : Int) ≤ z8 by omega) (show z8 ≤ (2147483647 : Int) by omega)
      have hf42 : fr [24, 31, 32, 33, 34, 35, 36] [65] m (kA m23 65 (up (m23.2.1 65) (4 * m23.1 24) z8)) := fr_A hf30 65 _ rfl
      obtain ⟨m43, e44⟩ : ∃ x : kM, x = (kA m23 65 (up (m23.2.1 65) (4 * m23.1 24) z8)) := ⟨_, rfl⟩
      rw [← e44]
      have hm45 : kI m43 := by rw [e44]; exact hm41
      have hc46 : fr [] [65] m23 m43 := by rw [e44]; exact fr_A (fr_rf _) 65 _ rfl
      have b65 : m43.2.1 65 = up (m23.2.1 65) (4 * m23.1 24) z8 := by rw [e44]; rfl
      have hf47 : fr [24, 31, 32, 33, 34, 35, 36] [65] m m43 := fr_tr hf30 (fr_le hc46 rfl rfl)
      have h48 : m43.1 23 = m23.1 23 := hc46.1 23 rfl
      have h49 : 0 ≤ m43.1 23 ∧ m43.1 23 ≤ 200 := hm45.1 23
      have h50 : m43.1 24 = m23.1 24 := hc46.1 24 rfl
      have h51 : 0 ≤ m43.1 24 ∧ m43.1 24 ≤ 10 := hm45.1 24
      have h52 : m43.1 34 = m23.1 34 := hc46.1 34 rfl
      have h53 : 0 ≤ m43.1 34 ∧ m43.1 34 ≤ 6 := hm45.1 34
      have h54 : m43.1 35 = m23.1 35 := hc46.1 35 rfl
      have h55 : 0 ≤ m43.1 35 ∧ m43.1 35 ≤ 10 := hm45.1 35
      have h56 : m43.1 36 = m23.1 36 := hc46.1 36 rfl
      have h57 : 0 ≤ m43.1 36 ∧ m43.1 36 ≤ 63 := hm45.1 36
      have bT : m43.2.1 64 = m.2.1 64 := (hc46.2.1 64 rfl).trans aT
      have bN : m43.1 23 = m.1 23 := (hc46.1 23 rfl).trans aN
      have b24 : m43.1 24 = m.1 24 := (hc46.1 24 rfl).trans (hc26.1 24 rfl)
      have b34 : m43.1 34 = m.1 34 := (hc46.1 34 rfl).trans (hc26.1 34 rfl)
      have b35 : m43.1 35 = m.1 35 := (hc46.1 35 rfl).trans (hc26.1 35 rfl)
      have b36 : m43.1 36 = m.1 36 := (hc46.1 36 rfl).trans (hc26.1 36 rfl)
      have bX : m43.2.1 65 (4 * m.1 24) = z8 := by rw [b65, show (4 * m23.1 24) = 4 * m.1 24 by omega, up_same]
      have bY : ∀ j : Int, j < 4 * m.1 24 → m43.2.1 65 j = m.2.1 65 j := fun j hj => by rw [b65, up_ne _ (by omega), hc26.2.1 65 rfl]
      have ht3 : tk m43 (EP (m43.2.1 64) (m43.1 23) p) := by rw [bT, bN]; exact tk_fr hc46 rfl rfl rfl rfl rfl htk
      have hC : (z8 = 0 ∧ LW (m.2.1 64) (m.1 23) p = 6) ∨ (1 ≤ z8 ∧ z8 ≤ 6 ∧ LW (m.2.1 64) (m.1 23) p = z8 - 1) ∨ (7 ≤ z8 ∧ LW (m.2.1 64) (m.1 23) p = z8) := by omega
      have hD3 : 1 ≤ z8 ∧ z8 ≤ 6 → m43.1 35 < 10 := by omega
      clear hw0
      have hW3 : (z8 = 0 ∧ LW (m43.2.1 64) (m43.1 23) p = 6) ∨ (1 ≤ z8 ∧ z8 ≤ 6 ∧ LW (m43.2.1 64) (m43.1 23) p = z8 - 1) ∨ (7 ≤ z8 ∧ LW (m43.2.1 64) (m43.1 23) p = z8) := by rw [bT, bN]; exact hC
      have hp3 : pcn (m43.1 36) ≤ 4 := by rw [b36]; exact hp4
      refine g_aload_n (n := 0) rfl rfl ?_
      refine g_iload_n (n := 1) rfl rfl ?_
      refine c_vI (i := 61) (ps := [vI z8]) (r := []) (as := [vR 61, vI z8]) (cs' := 0) (sl' := 0) rfl rfl rfl rfl rfl rfl (kl_61 _) (d_readsRest (d := d - 1) (q := q - (3 + 19)) (by omega) (by omega) hm45 (w := z8) (show 0 ≤ z8 ∧ z8 ≤ 11 by omega) (show p ≤ m43.1 23 by omega) ht3 (show m43.1 24 ≤ 9 by omega) (show 2 ≤ m43.1 34 by omega) hp3 hD3 hW3) (by omega) (show 3 + 19 ≤ q by omega) (Nat.le_of_ble_eq_true rfl) (Nat.le_of_ble_eq_true rfl) rfl rfl rfl ?_
      rintro z58 m59 ⟨hm61, hc62, p63⟩
      have hf64 : fr [24, 31, 32, 33, 34, 35, 36] [65] m m59 := fr_tr hf47 (fr_le hc62 rfl rfl)
      have h65 : m59.1 23 = m43.1 23 := hc62.1 23 rfl
      have h66 : 0 ≤ m59.1 23 ∧ m59.1 23 ≤ 200 := hm61.1 23
      have h67 : m59.1 24 = m43.1 24 := hc62.1 24 rfl
      have h68 : 0 ≤ m59.1 24 ∧ m59.1 24 ≤ 10 := hm61.1 24
      have h69 : m59.1 34 = m43.1 34 := hc62.1 34 rfl
      have h70 : 0 ≤ m59.1 34 ∧ m59.1 34 ≤ 6 := hm61.1 34
      have h71 : m59.1 35 = m43.1 35 := hc62.1 35 rfl
      have h72 : 0 ≤ m59.1 35 ∧ m59.1 35 ≤ 10 := hm61.1 35
      have h0 := p63
      rw [bT, bN, b24, b34, b35, b36] at h0
      clear hW3 hD3 p63
      refine g_if_ne (by omega) (by omega) rfl ?_ ?_
      · intro kk73
        obtain ⟨-, k1, k2, k3, k4_, k5, k6, k7, k8, k9⟩ := h0.resolve_right (fun h => by omega)
        clear h0
        have cX : m59.2.1 65 (4 * m.1 24) = z8 := (k7 _ (by omega)).trans bX
        have cY : ∀ j : Int, j < 4 * m.1 24 → m59.2.1 65 j = m.2.1 65 j := fun j hj => (k7 j (by omega)).trans (bY j hj)
        have c24 : m59.1 24 = m.1 24 := (hc62.1 24 rfl).trans b24
        have c34 : m59.1 34 = m.1 34 := (hc62.1 34 rfl).trans b34
        have c35 : m59.1 35 = m.1 35 := (hc62.1 35 rfl).trans b35
        refine g_iload_n (n := 1) rfl rfl ?_
        refine g_if_ne (by omega) (by omega) rfl ?_ ?_
        · intro kk74
          refine g_aload_n (n := 0) rfl rfl ?_
          refine g_dup rfl rfl ?_
          refine g_getf (v := vI (m59.1 35)) rfl (kl_61 _) rfl ?_
          refine g_iload_n (n := 1) rfl rfl ?_
          refine c_sI (ps := [vI z8]) (r := [vI (m59.1 35), vR 61]) (as := [vI z8]) (cs' := 0) (sl' := 0) rfl rfl rfl rfl rfl rfl (d_isDoorLine (d := d - 1) (q := q - (1 + 19)) (by omega) (by omega) hm61 (a := z8) (show (-2147483648) ≤ z8 ∧ z8 ≤ 2147483647 by omega)) (by omega) (show 1 + 19 ≤ q by omega) (Nat.le_of_ble_eq_true rfl) (Nat.le_of_ble_eq_true rfl) rfl rfl rfl ?_
          rintro z75 m76 ⟨rfl, p78⟩
          refine g_if_eq (by omega) (by omega) rfl ?_ ?_
          · intro kk79
            refine g_iconst rfl ?_
            refine g_iadd rfl ?_
            refine g_putF (m' := (kF m59 35 (m59.1 35 + 0))) rfl (kl_61 _) rfl rfl rfl rfl (kF_35 _ _) ?_
            have hm80 : kI (kF m59 35 (m59.1 35 + 0)) := kI_F hm61 35 (show (0 : Int) ≤ (m59.1 35 + 0) by omega) (show (m59.1 35 + 0) ≤ (10 : Int) by omega)
            have hf81 : fr [24, 31, 32, 33, 34, 35, 36] [65] m (kF m59 35 (m59.1 35 + 0)) := fr_F hf64 35 _ rfl
            refine g_aload_n (n := 0) rfl rfl ?_
            refine g_dup rfl rfl ?_
            refine g_getf (v := vI (m59.1 24)) rfl (kl_61 _) rfl ?_
            refine g_iconst rfl ?_
            refine g_iadd rfl ?_
            refine g_putF (m' := (kF (kF m59 35 (m59.1 35 + 0)) 24 (m59.1 24 + 1))) rfl (kl_61 _) rfl rfl rfl rfl (kF_24 _ _) ?_
            have hm82 : kI (kF (kF m59 35 (m59.1 35 + 0)) 24 (m59.1 24 + 1)) := kI_F hm80 24 (show (0 : Int) ≤ (m59.1 24 + 1) by omega) (show (m59.1 24 + 1) ≤ (10 : Int) by omega)
            have hf83 : fr [24, 31, 32, 33, 34, 35, 36] [65] m (kF (kF m59 35 (m59.1 35 + 0)) 24 (m59.1 24 + 1)) := fr_F hf81 24 _ rfl
            refine g_iconst rfl ?_
            refine g_zret rfl rfl (by omega) ?_
            have hk3 := k3
            have hnz : 1 ≤ z8 := by omega
            have hLW : (1 ≤ z8 ∧ z8 ≤ 6 ∧ LW (m.2.1 64) (m.1 23) p = z8 - 1) ∨ (7 ≤ z8 ∧ LW (m.2.1 64) (m.1 23) p = z8) := by omega
            have e34 : m59.1 34 = LR (m.2.1 64) (m.1 23) p (m.1 34) := by unfold LR; rw [if_neg (by omega)]; exact c34
            have e35 : (m59.1 35 + 0) = LD (m.2.1 64) (m.1 23) p (m.1 35) := by unfold LD; rw [if_neg (by omega)]; split <;> omega
            have e36 : m59.1 36 = LH (m.2.1 64) (m.1 23) p (m.1 34) (m.1 36) := by unfold LH; rw [if_neg (by omega), k3]; by_cases q : z8 = 8; exact (by rw [if_pos q, if_pos (by omega), k5 q]); exact (by rw [if_neg q, if_neg (by omega)])
            have hrw : (m59.1 34, (m59.1 35 + 0), m59.1 36) = rw1 z8 (m59.2.1 65 (4 * m.1 24 + 1)) (m.1 34, m.1 35, m.1 36) := by
              unfold rw1
              rw [if_neg (show ¬ (z8 = 0) by omega)]
              by_cases q6 : z8 ≤ 6
              · rw [if_pos q6]; exact Prod.ext c34 (Prod.ext (by show (m59.1 35 + 0) = m.1 35 + 1; omega) (by show m59.1 36 = m.1 36; rw [k3, if_neg (by omega)]))
              · rw [if_neg q6]; by_cases q8 : z8 = 8
                · rw [if_pos q8]; exact Prod.ext c34 (Prod.ext (by show (m59.1 35 + 0) = m.1 35; omega) (by show m59.1 36 = stb (m.1 36) _; rw [k3, if_pos q8]))
                · rw [if_neg q8]; exact Prod.ext c34 (Prod.ext (by show (m59.1 35 + 0) = m.1 35; omega) (by show m59.1 36 = m.1 36; rw [k3, if_neg q8]))
            have hY9 : ∀ g : kY, rw2 z8 (m59.2.1 65 (4 * m.1 24 + 1)) (m59.2.1 65 (4 * m.1 24 + 2)) (m59.2.1 65 (4 * m.1 24 + 3)) (m.1 35) g = LY (m.2.1 64) (m.1 23) p (m.1 34) (m.1 35) g := by
              intro g
              unfold rw2 LY
              rw [if_neg (show ¬ (z8 = 0) by omega), if_neg (show ¬ (LW (m.2.1 64) (m.1 23) p = 6) by omega)]
              by_cases q6 : z8 ≤ 6
              · obtain ⟨u1, u2, u3⟩ := k8 ⟨hnz, q6⟩; rw [if_pos q6, if_pos (show LW (m.2.1 64) (m.1 23) p ≤ 5 by omega), u1, u2, u3, show LW (m.2.1 64) (m.1 23) p = z8 - 1 by omega]
              · rw [if_neg q6, if_neg (show ¬ (LW (m.2.1 64) (m.1 23) p ≤ 5) by omega)]
                by_cases q10 : z8 = 10
                · rw [if_pos q10, if_pos (show LW (m.2.1 64) (m.1 23) p = 10 by omega), k9 q10]
                · rw [if_neg q10, if_neg (show ¬ (LW (m.2.1 64) (m.1 23) p = 10) by omega)]
            exact ⟨_, _, rfl, hm82, hf83, Or.inl ⟨rfl, k1, k2, (show (m59.1 24 + 1) = m.1 24 + 1 by omega), e34, e35, e36, (by show rv (m59.2.1 65 (4 * m.1 24)) _ _ _ _ _; rw [cX]; exact k6), (by show _ = rw1 (m59.2.1 65 (4 * m.1 24)) _ _; rw [cX]; exact hrw), cY, (fun y => by show rw2 (m59.2.1 65 (4 * m.1 24)) _ _ _ _ _ = _; rw [cX]; exact hY9 y)⟩⟩
          · intro kk84
            refine g_iconst rfl ?_
            refine g_goto rfl ?_
            refine g_iadd rfl ?_
            refine g_putF (m' := (kF m59 35 (m59.1 35 + 1))) rfl (kl_61 _) rfl rfl rfl rfl (kF_35 _ _) ?_
            have hm85 : kI (kF m59 35 (m59.1 35 + 1)) := kI_F hm61 35 (show (0 : Int) ≤ (m59.1 35 + 1) by omega) (show (m59.1 35 + 1) ≤ (10 : Int) by omega)
            have hf86 : fr [24, 31, 32, 33, 34, 35, 36] [65] m (kF m59 35 (m59.1 35 + 1)) := fr_F hf64 35 _ rfl
            refine g_aload_n (n := 0) rfl rfl ?_
            refine g_dup rfl rfl ?_
            refine g_getf (v := vI (m59.1 24)) rfl (kl_61 _) rfl ?_
            refine g_iconst rfl ?_
            refine g_iadd rfl ?_
            refine g_putF (m' := (kF (kF m59 35 (m59.1 35 + 1)) 24 (m59.1 24 + 1))) rfl (kl_61 _) rfl rfl rfl rfl (kF_24 _ _) ?_
            have hm87 : kI (kF (kF m59 35 (m59.1 35 + 1)) 24 (m59.1 24 + 1)) := kI_F hm85 24 (show (0 : Int) ≤ (m59.1 24 + 1) by omega) (show (m59.1 24 + 1) ≤ (10 : Int) by omega)
            have hf88 : fr [24, 31, 32, 33, 34, 35, 36] [65] m (kF (kF m59 35 (m59.1 35 + 1)) 24 (m59.1 24 + 1)) := fr_F hf86 24 _ rfl
            refine g_iconst rfl ?_
            refine g_zret rfl rfl (by omega) ?_
            have hk3 := k3
            have hnz : 1 ≤ z8 := by omega
            have hLW : (1 ≤ z8 ∧ z8 ≤ 6 ∧ LW (m.2.1 64) (m.1 23) p = z8 - 1) ∨ (7 ≤ z8 ∧ LW (m.2.1 64) (m.1 23) p = z8) := by omega
            have e34 : m59.1 34 = LR (m.2.1 64) (m.1 23) p (m.1 34) := by unfold LR; rw [if_neg (by omega)]; exact c34
            have e35 : (m59.1 35 + 1) = LD (m.2.1 64) (m.1 23) p (m.1 35) := by unfold LD; rw [if_neg (by omega)]; split <;> omega
            have e36 : m59.1 36 = LH (m.2.1 64) (m.1 23) p (m.1 34) (m.1 36) := by unfold LH; rw [if_neg (by omega), k3]; by_cases q : z8 = 8; exact (by rw [if_pos q, if_pos (by omega), k5 q]); exact (by rw [if_neg q, if_neg (by omega)])
            have hrw : (m59.1 34, (m59.1 35 + 1), m59.1 36) = rw1 z8 (m59.2.1 65 (4 * m.1 24 + 1)) (m.1 34, m.1 35, m.1 36) := by
              unfold rw1
              rw [if_neg (show ¬ (z8 = 0) by omega)]
              by_cases q6 : z8 ≤ 6
              · rw [if_pos q6]; exact Prod.ext c34 (Prod.ext (by show (m59.1 35 + 1) = m.1 35 + 1; omega) (by show m59.1 36 = m.1 36; rw [k3, if_neg (by omega)]))
              · rw [if_neg q6]; by_cases q8 : z8 = 8
                · rw [if_pos q8]; exact Prod.ext c34 (Prod.ext (by show (m59.1 35 + 1) = m.1 35; omega) (by show m59.1 36 = stb (m.1 36) _; rw [k3, if_pos q8]))
                · rw [if_neg q8]; exact Prod.ext c34 (Prod.ext (by show (m59.1 35 + 1) = m.1 35; omega) (by show m59.1 36 = m.1 36; rw [k3, if_neg q8]))
            have hY9 : ∀ g : kY, rw2 z8 (m59.2.1 65 (4 * m.1 24 + 1)) (m59.2.1 65 (4 * m.1 24 + 2)) (m59.2.1 65 (4 * m.1 24 + 3)) (m.1 35) g = LY (m.2.1 64) (m.1 23) p (m.1 34) (m.1 35) g := by
              intro g
              unfold rw2 LY
              rw [if_neg (show ¬ (z8 = 0) by omega), if_neg (show ¬ (LW (m.2.1 64) (m.1 23) p = 6) by omega)]
              by_cases q6 : z8 ≤ 6
              · obtain ⟨u1, u2, u3⟩ := k8 ⟨hnz, q6⟩; rw [if_pos q6, if_pos (show LW (m.2.1 64) (m.1 23) p ≤ 5 by omega), u1, u2, u3, show LW (m.2.1 64) (m.1 23) p = z8 - 1 by omega]
              · rw [if_neg q6, if_neg (show ¬ (LW (m.2.1 64) (m.1 23) p ≤ 5) by omega)]
                by_cases q10 : z8 = 10
                · rw [if_pos q10, if_pos (show LW (m.2.1 64) (m.1 23) p = 10 by omega), k9 q10]
                · rw [if_neg q10, if_neg (show ¬ (LW (m.2.1 64) (m.1 23) p = 10) by omega)]
            exact ⟨_, _, rfl, hm87, hf88, Or.inl ⟨rfl, k1, k2, (show (m59.1 24 + 1) = m.1 24 + 1 by omega), e34, e35, e36, (by show rv (m59.2.1 65 (4 * m.1 24)) _ _ _ _ _; rw [cX]; exact k6), (by show _ = rw1 (m59.2.1 65 (4 * m.1 24)) _ _; rw [cX]; exact hrw), cY, (fun y => by show rw2 (m59.2.1 65 (4 * m.1 24)) _ _ _ _ _ = _; rw [cX]; exact hY9 y)⟩⟩
        · intro kk89
          refine g_aload_n (n := 0) rfl rfl ?_
          refine g_aload_n (n := 0) rfl rfl ?_
          refine g_getf (v := vR 65) rfl (kl_61 _) rfl ?_
          refine g_iconst rfl ?_
          refine g_aload_n (n := 0) rfl rfl ?_
          refine g_getf (v := vI (m59.1 24)) rfl (kl_61 _) rfl ?_
          refine g_imul rfl ?_
          refine g_iconst rfl ?_
          refine g_iadd rfl ?_
          have h90 : (-2147483648) ≤ m59.2.1 65 ((4 * m59.1 24) + 1) ∧ m59.2.1 65 ((4 * m59.1 24) + 1) ≤ 2147483647 := hm61.2 65 ((4 * m59.1 24) + 1) (by omega) (show ((4 * m59.1 24) + 1) < (40 : Int) by omega)
          refine g_iald (f := m59.2.1 65) rfl (kl_65 _) (by decide) (by omega) (by omega) ?_
          have ei : m59.2.1 65 ((4 * m59.1 24) + 1) = m59.2.1 65 (4 * m.1 24 + 1) := by rw [c24]
          have hA : 2 ≤ m59.2.1 65 (4 * m.1 24 + 1) ∧ m59.2.1 65 (4 * m.1 24 + 1) ≤ 6 := by unfold rv at k6; omega
          refine g_putF (m' := (kF m59 34 (m59.2.1 65 ((4 * m59.1 24) + 1)))) rfl (kl_61 _) rfl rfl rfl rfl (kF_34 _ _) ?_
          have hm91 : kI (kF m59 34 (m59.2.1 65 ((4 * m59.1 24) + 1))) := kI_F hm61 34 (show (0 : Int) ≤ m59.2.1 65 ((4 * m59.1 24) + 1) by omega) (show m59.2.1 65 ((4 * m59.1 24) + 1) ≤ (6 : Int) by omega)
          have hf92 : fr [24, 31, 32, 33, 34, 35, 36] [65] m (kF m59 34 (m59.2.1 65 ((4 * m59.1 24) + 1))) := fr_F hf64 34 _ rfl
          refine g_aload_n (n := 0) rfl rfl ?_
          refine g_iconst rfl ?_
          refine g_putF (m' := (kF (kF m59 34 (m59.2.1 65 ((4 * m59.1 24) + 1))) 35 0)) rfl (kl_61 _) rfl rfl rfl rfl (kF_35 _ _) ?_
          have hm93 : kI (kF (kF m59 34 (m59.2.1 65 ((4 * m59.1 24) + 1))) 35 0) := kI_F hm91 35 (show (0 : Int) ≤ 0 by omega) (show 0 ≤ (10 : Int) by omega)
          have hf94 : fr [24, 31, 32, 33, 34, 35, 36] [65] m (kF (kF m59 34 (m59.2.1 65 ((4 * m59.1 24) + 1))) 35 0) := fr_F hf92 35 _ rfl
          refine g_aload_n (n := 0) rfl rfl ?_
          refine g_iconst rfl ?_
          refine g_putF (m' := (kF (kF (kF m59 34 (m59.2.1 65 ((4 * m59.1 24) + 1))) 35 0) 36 0)) rfl (kl_61 _) rfl rfl rfl rfl (kF_36 _ _) ?_
          have hm95 : kI (kF (kF (kF m59 34 (m59.2.1 65 ((4 * m59.1 24) + 1))) 35 0) 36 0) := kI_F hm93 36 (show (0 : Int) ≤ 0 by omega) (show 0 ≤ (63 : Int) by omega)
          have hf96 : fr [24, 31, 32, 33, 34, 35, 36] [65] m (kF (kF (kF m59 34 (m59.2.1 65 ((4 * m59.1 24) + 1))) 35 0) 36 0) := fr_F hf94 36 _ rfl
          refine g_aload_n (n := 0) rfl rfl ?_
          refine g_dup rfl rfl ?_
          refine g_getf (v := vI 0) rfl (kl_61 _) rfl ?_
          refine g_iload_n (n := 1) rfl rfl ?_
          refine c_sI (ps := [vI z8]) (r := [vI 0, vR 61]) (as := [vI z8]) (cs' := 0) (sl' := 0) rfl rfl rfl rfl rfl rfl (d_isDoorLine (d := d - 1) (q := q - (1 + 19)) (by omega) (by omega) hm95 (a := z8) (show (-2147483648) ≤ z8 ∧ z8 ≤ 2147483647 by omega)) (by omega) (show 1 + 19 ≤ q by omega) (Nat.le_of_ble_eq_true rfl) (Nat.le_of_ble_eq_true rfl) rfl rfl rfl ?_
          rintro z97 m98 ⟨rfl, p100⟩
          refine g_if_eq (by omega) (by omega) rfl ?_ ?_
          · intro kk101
            refine g_iconst rfl ?_
            refine g_iadd rfl ?_
            refine g_putF (m' := (kF (kF (kF (kF m59 34 (m59.2.1 65 ((4 * m59.1 24) + 1))) 35 0) 36 0) 35 (0 + 0))) rfl (kl_61 _) rfl rfl rfl rfl (kF_35 _ _) ?_
            have hm102 : kI (kF (kF (kF (kF m59 34 (m59.2.1 65 ((4 * m59.1 24) + 1))) 35 0) 36 0) 35 (0 + 0)) := kI_F hm95 35 (show (0 : Int) ≤ (0 + 0) by omega) (show (0 + 0) ≤ (10 : Int) by omega)
            have hf103 : fr [24, 31, 32, 33, 34, 35, 36] [65] m (kF (kF (kF (kF m59 34 (m59.2.1 65 ((4 * m59.1 24) + 1))) 35 0) 36 0) 35 (0 + 0)) := fr_F hf96 35 _ rfl
            refine g_aload_n (n := 0) rfl rfl ?_
            refine g_dup rfl rfl ?_
            refine g_getf (v := vI (m59.1 24)) rfl (kl_61 _) rfl ?_
            refine g_iconst rfl ?_
            refine g_iadd rfl ?_
            refine g_putF (m' := (kF (kF (kF (kF (kF m59 34 (m59.2.1 65 ((4 * m59.1 24) + 1))) 35 0) 36 0) 35 (0 + 0)) 24 (m59.1 24 + 1))) rfl (kl_61 _) rfl rfl rfl rfl (kF_24 _ _) ?_
            have hm104 : kI (kF (kF (kF (kF (kF m59 34 (m59.2.1 65 ((4 * m59.1 24) + 1))) 35 0) 36 0) 35 (0 + 0)) 24 (m59.1 24 + 1)) := kI_F hm102 24 (show (0 : Int) ≤ (m59.1 24 + 1) by omega) (show (m59.1 24 + 1) ≤ (10 : Int) by omega)
            have hf105 : fr [24, 31, 32, 33, 34, 35, 36] [65] m (kF (kF (kF (kF (kF m59 34 (m59.2.1 65 ((4 * m59.1 24) + 1))) 35 0) 36 0) 35 (0 + 0)) 24 (m59.1 24 + 1)) := fr_F hf103 24 _ rfl
            refine g_iconst rfl ?_
            refine g_zret rfl rfl (by omega) ?_
            have hk3 := k3
            have hLW : LW (m.2.1 64) (m.1 23) p = 6 := by omega
            have hrw : (m59.2.1 65 ((4 * m59.1 24) + 1), (0 + 0), 0) = rw1 z8 (m59.2.1 65 (4 * m.1 24 + 1)) (m.1 34, m.1 35, m.1 36) := by unfold rw1; rw [if_pos (show z8 = 0 by omega)]; exact Prod.ext (by show m59.2.1 65 ((4 * m59.1 24) + 1) = _; omega) (Prod.ext (by show (0 + 0) = 0; omega) rfl)
            have e34 : m59.2.1 65 (4 * m.1 24 + 1) = LR (m.2.1 64) (m.1 23) p (m.1 34) := by unfold LR; rw [hLW, if_pos rfl]; exact k4_ (by omega)
            have e35 : (0 + 0) = LD (m.2.1 64) (m.1 23) p (m.1 35) := by unfold LD; rw [hLW, if_pos rfl]; omega
            have e36 : 0 = LH (m.2.1 64) (m.1 23) p (m.1 34) (m.1 36) := by unfold LH; rw [hLW, if_pos rfl]
            have hY9 : ∀ g : kY, rw2 z8 (m59.2.1 65 (4 * m.1 24 + 1)) (m59.2.1 65 (4 * m.1 24 + 2)) (m59.2.1 65 (4 * m.1 24 + 3)) (m.1 35) g = LY (m.2.1 64) (m.1 23) p (m.1 34) (m.1 35) g := by
              intro g
              unfold rw2 LY
              rw [if_pos (show z8 = 0 by omega), if_pos hLW]
            exact ⟨_, _, rfl, hm104, hf105, Or.inl ⟨rfl, k1, k2, (show (m59.1 24 + 1) = m.1 24 + 1 by omega), ((show m59.2.1 65 ((4 * m59.1 24) + 1) = m59.2.1 65 (4 * m.1 24 + 1) by omega).trans e34), e35, e36, (by show rv (m59.2.1 65 (4 * m.1 24)) _ _ _ _ _; rw [cX]; exact k6), (by show _ = rw1 (m59.2.1 65 (4 * m.1 24)) _ _; rw [cX]; exact hrw), cY, (fun y => by show rw2 (m59.2.1 65 (4 * m.1 24)) _ _ _ _ _ = _; rw [cX]; exact hY9 y)⟩⟩
          · intro kk106
            refine g_iconst rfl ?_
            refine g_goto rfl ?_
            refine g_iadd rfl ?_
            refine g_putF (m' := (kF (kF (kF (kF m59 34 (m59.2.1 65 ((4 * m59.1 24) + 1))) 35 0) 36 0) 35 (0 + 1))) rfl (kl_61 _) rfl rfl rfl rfl (kF_35 _ _) ?_
            have hm107 : kI (kF (kF (kF (kF m59 34 (m59.2.1 65 ((4 * m59.1 24) + 1))) 35 0) 36 0) 35 (0 + 1)) := kI_F hm95 35 (show (0 : Int) ≤ (0 + 1) by omega) (show (0 + 1) ≤ (10 : Int) by omega)
            have hf108 : fr [24, 31, 32, 33, 34, 35, 36] [65] m (kF (kF (kF (kF m59 34 (m59.2.1 65 ((4 * m59.1 24) + 1))) 35 0) 36 0) 35 (0 + 1)) := fr_F hf96 35 _ rfl
            refine g_aload_n (n := 0) rfl rfl ?_
            refine g_dup rfl rfl ?_
            refine g_getf (v := vI (m59.1 24)) rfl (kl_61 _) rfl ?_
            refine g_iconst rfl ?_
            refine g_iadd rfl ?_
            refine g_putF (m' := (kF (kF (kF (kF (kF m59 34 (m59.2.1 65 ((4 * m59.1 24) + 1))) 35 0) 36 0) 35 (0 + 1)) 24 (m59.1 24 + 1))) rfl (kl_61 _) rfl rfl rfl rfl (kF_24 _ _) ?_
            have hm109 : kI (kF (kF (kF (kF (kF m59 34 (m59.2.1 65 ((4 * m59.1 24) + 1))) 35 0) 36 0) 35 (0 + 1)) 24 (m59.1 24 + 1)) := kI_F hm107 24 (show (0 : Int) ≤ (m59.1 24 + 1) by omega) (show (m59.1 24 + 1) ≤ (10 : Int) by omega)
            have hf110 : fr [24, 31, 32, 33, 34, 35, 36] [65] m (kF (kF (kF (kF (kF m59 34 (m59.2.1 65 ((4 * m59.1 24) + 1))) 35 0) 36 0) 35 (0 + 1)) 24 (m59.1 24 + 1)) := fr_F hf108 24 _ rfl
            refine g_iconst rfl ?_
            refine g_zret rfl rfl (by omega) ?_
            have hk3 := k3
            have hLW : LW (m.2.1 64) (m.1 23) p = 6 := by omega
            have hrw : (m59.2.1 65 ((4 * m59.1 24) + 1), (0 + 1), 0) = rw1 z8 (m59.2.1 65 (4 * m.1 24 + 1)) (m.1 34, m.1 35, m.1 36) := by unfold rw1; rw [if_pos (show z8 = 0 by omega)]; exact Prod.ext (by show m59.2.1 65 ((4 * m59.1 24) + 1) = _; omega) (Prod.ext (by show (0 + 1) = 0; omega) rfl)
            have e34 : m59.2.1 65 (4 * m.1 24 + 1) = LR (m.2.1 64) (m.1 23) p (m.1 34) := by unfold LR; rw [hLW, if_pos rfl]; exact k4_ (by omega)
            have e35 : (0 + 1) = LD (m.2.1 64) (m.1 23) p (m.1 35) := by unfold LD; rw [hLW, if_pos rfl]; omega
            have e36 : 0 = LH (m.2.1 64) (m.1 23) p (m.1 34) (m.1 36) := by unfold LH; rw [hLW, if_pos rfl]
            have hY9 : ∀ g : kY, rw2 z8 (m59.2.1 65 (4 * m.1 24 + 1)) (m59.2.1 65 (4 * m.1 24 + 2)) (m59.2.1 65 (4 * m.1 24 + 3)) (m.1 35) g = LY (m.2.1 64) (m.1 23) p (m.1 34) (m.1 35) g := by
              intro g
              unfold rw2 LY
              rw [if_pos (show z8 = 0 by omega), if_pos hLW]
            exact ⟨_, _, rfl, hm109, hf110, Or.inl ⟨rfl, k1, k2, (show (m59.1 24 + 1) = m.1 24 + 1 by omega), ((show m59.2.1 65 ((4 * m59.1 24) + 1) = m59.2.1 65 (4 * m.1 24 + 1) by omega).trans e34), e35, e36, (by show rv (m59.2.1 65 (4 * m.1 24)) _ _ _ _ _; rw [cX]; exact k6), (by show _ = rw1 (m59.2.1 65 (4 * m.1 24)) _ _; rw [cX]; exact hrw), cY, (fun y => by show rw2 (m59.2.1 65 (4 * m.1 24)) _ _ _ _ _ = _; rw [cX]; exact hY9 y)⟩⟩
      · intro kk111
        refine g_iconst rfl ?_
        refine g_zret rfl rfl (by omega) ?_
        obtain ⟨-, k1, k2⟩ := h0.resolve_left (fun h => by omega)
        exact ⟨_, _, rfl, hm61, hf64, Or.inr ⟨rfl, k1, k2⟩⟩
    · intro kk112
      refine g_aload_n (n := 0) rfl rfl ?_
      refine g_getf (v := vI (m.1 35)) rfl (kl_61 _) rfl ?_
      refine g_bipush (by decide) rfl ?_
      refine g_icmp_ne (by omega) (by omega) (by decide) (by decide) rfl ?_ ?_
      · intro kk113
        refine g_aload_n (n := 0) rfl rfl ?_
        have h114 : 0 ≤ m.1 31 ∧ m.1 31 ≤ 200 := hm.1 31
        refine c_vV (i := 61) (ps := []) (r := []) (as := [vR 61]) (cs' := 0) (sl' := 0) rfl rfl rfl rfl rfl rfl (kl_61 _) (d_token (d := d - 1) (q := q - (1 + 19)) (by omega) (by omega) hm  (show m.1 31 ≤ m.1 23 by omega)) (by omega) (show 1 + 19 ≤ q by omega) (Nat.le_of_ble_eq_true rfl) (Nat.le_of_ble_eq_true rfl) rfl rfl rfl ?_
        rintro m116 ⟨hm118, hc119, p120, p121, p122⟩
        have hf123 : fr [24, 31, 32, 33, 34, 35, 36] [65] m m116 := fr_tr hf0 (fr_le hc119 rfl rfl)
        have h124 : m116.1 23 = m.1 23 := hc119.1 23 rfl
        have h125 : 0 ≤ m116.1 23 ∧ m116.1 23 ≤ 200 := hm118.1 23
        have h126 : m116.1 24 = m.1 24 := hc119.1 24 rfl
        have h127 : 0 ≤ m116.1 24 ∧ m116.1 24 ≤ 10 := hm118.1 24
        have h128 : m116.1 34 = m.1 34 := hc119.1 34 rfl
        have h129 : 0 ≤ m116.1 34 ∧ m116.1 34 ≤ 6 := hm118.1 34
        have h130 : m116.1 35 = m.1 35 := hc119.1 35 rfl
        have h131 : 0 ≤ m116.1 35 ∧ m116.1 35 ≤ 10 := hm118.1 35
        have h132 : m116.1 36 = m.1 36 := hc119.1 36 rfl
        have h133 : 0 ≤ m116.1 36 ∧ m116.1 36 ≤ 63 := hm118.1 36
        have aT : m116.2.1 64 = m.2.1 64 := hc119.2.1 64 rfl
        have aN : m116.1 23 = m.1 23 := hc119.1 23 rfl
        have htk : tk m116 (EP (m.2.1 64) (m.1 23) p) := by unfold tk; rw [aT, aN, ← ha]; exact ⟨by omega, p120, p121, p122⟩
        refine g_aload_n (n := 0) rfl rfl ?_
        refine g_getf (v := vR 65) rfl (kl_61 _) rfl ?_
        refine g_iconst rfl ?_
        refine g_aload_n (n := 0) rfl rfl ?_
        refine g_getf (v := vI (m116.1 24)) rfl (kl_61 _) rfl ?_
        refine g_imul rfl ?_
        refine g_iload_n (n := 1) rfl rfl ?_
        refine g_iAst (f := m116.2.1 65) (m' := (kA m116 65 (up (m116.2.1 65) (4 * m116.1 24) z8))) rfl (kl_65 _) (by decide) (by omega) (by omega) (kA_65 _ _) ?_
        have hm134 : kI (kA m116 65 (up (m116.2.1 65) (4 * m116.1 24) z8)) := kI_U hm118 65 rfl (show ((-2147483648) : Int) ≤ z8 by omega) (show z8 ≤ (2147483647 : Int) by omega)
        have hf135 : fr [24, 31, 32, 33, 34, 35, 36] [65] m (kA m116 65 (up (m116.2.1 65) (4 * m116.1 24) z8)) := fr_A hf123 65 _ rfl
        obtain ⟨m136, e137⟩ : ∃ x : kM, x = (kA m116 65 (up (m116.2.1 65) (4 * m116.1 24) z8)) := ⟨_, rfl⟩
        rw [← e137]
        have hm138 : kI m136 := by rw [e137]; exact hm134
        have hc139 : fr [] [65] m116 m136 := by rw [e137]; exact fr_A (fr_rf _) 65 _ rfl
        have b65 : m136.2.1 65 = up (m116.2.1 65) (4 * m116.1 24) z8 := by rw [e137]; rfl
        have hf140 : fr [24, 31, 32, 33, 34, 35, 36] [65] m m136 := fr_tr hf123 (fr_le hc139 rfl rfl)
        have h141 : m136.1 23 = m116.1 23 := hc139.1 23 rfl
        have h142 : 0 ≤ m136.1 23 ∧ m136.1 23 ≤ 200 := hm138.1 23
        have h143 : m136.1 24 = m116.1 24 := hc139.1 24 rfl
        have h144 : 0 ≤ m136.1 24 ∧ m136.1 24 ≤ 10 := hm138.1 24
        have h145 : m136.1 34 = m116.1 34 := hc139.1 34 rfl
        have h146 : 0 ≤ m136.1 34 ∧ m136.1 34 ≤ 6 := hm138.1 34
        have h147 : m136.1 35 = m116.1 35 := hc139.1 35 rfl
        have h148 : 0 ≤ m136.1 35 ∧ m136.1 35 ≤ 10 := hm138.1 35
        have h149 : m136.1 36 = m116.1 36 := hc139.1 36 rfl
        have h150 : 0 ≤ m136.1 36 ∧ m136.1 36 ≤ 63 := hm138.1 36
        have bT : m136.2.1 64 = m.2.1 64 := (hc139.2.1 64 rfl).trans aT
        have bN : m136.1 23 = m.1 23 := (hc139.1 23 rfl).trans aN
        have b24 : m136.1 24 = m.1 24 := (hc139.1 24 rfl).trans (hc119.1 24 rfl)
        have b34 : m136.1 34 = m.1 34 := (hc139.1 34 rfl).trans (hc119.1 34 rfl)
        have b35 : m136.1 35 = m.1 35 := (hc139.1 35 rfl).trans (hc119.1 35 rfl)
        have b36 : m136.1 36 = m.1 36 := (hc139.1 36 rfl).trans (hc119.1 36 rfl)
        have bX : m136.2.1 65 (4 * m.1 24) = z8 := by rw [b65, show (4 * m116.1 24) = 4 * m.1 24 by omega, up_same]
        have bY : ∀ j : Int, j < 4 * m.1 24 → m136.2.1 65 j = m.2.1 65 j := fun j hj => by rw [b65, up_ne _ (by omega), hc119.2.1 65 rfl]
        have ht3 : tk m136 (EP (m136.2.1 64) (m136.1 23) p) := by rw [bT, bN]; exact tk_fr hc139 rfl rfl rfl rfl rfl htk
        have hC : (z8 = 0 ∧ LW (m.2.1 64) (m.1 23) p = 6) ∨ (1 ≤ z8 ∧ z8 ≤ 6 ∧ LW (m.2.1 64) (m.1 23) p = z8 - 1) ∨ (7 ≤ z8 ∧ LW (m.2.1 64) (m.1 23) p = z8) := by omega
        have hD3 : 1 ≤ z8 ∧ z8 ≤ 6 → m136.1 35 < 10 := by omega
        clear hw0
        have hW3 : (z8 = 0 ∧ LW (m136.2.1 64) (m136.1 23) p = 6) ∨ (1 ≤ z8 ∧ z8 ≤ 6 ∧ LW (m136.2.1 64) (m136.1 23) p = z8 - 1) ∨ (7 ≤ z8 ∧ LW (m136.2.1 64) (m136.1 23) p = z8) := by rw [bT, bN]; exact hC
        have hp3 : pcn (m136.1 36) ≤ 4 := by rw [b36]; exact hp4
        refine g_aload_n (n := 0) rfl rfl ?_
        refine g_iload_n (n := 1) rfl rfl ?_
        refine c_vI (i := 61) (ps := [vI z8]) (r := []) (as := [vR 61, vI z8]) (cs' := 0) (sl' := 0) rfl rfl rfl rfl rfl rfl (kl_61 _) (d_readsRest (d := d - 1) (q := q - (3 + 19)) (by omega) (by omega) hm138 (w := z8) (show 0 ≤ z8 ∧ z8 ≤ 11 by omega) (show p ≤ m136.1 23 by omega) ht3 (show m136.1 24 ≤ 9 by omega) (show 2 ≤ m136.1 34 by omega) hp3 hD3 hW3) (by omega) (show 3 + 19 ≤ q by omega) (Nat.le_of_ble_eq_true rfl) (Nat.le_of_ble_eq_true rfl) rfl rfl rfl ?_
        rintro z151 m152 ⟨hm154, hc155, p156⟩
        have hf157 : fr [24, 31, 32, 33, 34, 35, 36] [65] m m152 := fr_tr hf140 (fr_le hc155 rfl rfl)
        have h158 : m152.1 23 = m136.1 23 := hc155.1 23 rfl
        have h159 : 0 ≤ m152.1 23 ∧ m152.1 23 ≤ 200 := hm154.1 23
        have h160 : m152.1 24 = m136.1 24 := hc155.1 24 rfl
        have h161 : 0 ≤ m152.1 24 ∧ m152.1 24 ≤ 10 := hm154.1 24
        have h162 : m152.1 34 = m136.1 34 := hc155.1 34 rfl
        have h163 : 0 ≤ m152.1 34 ∧ m152.1 34 ≤ 6 := hm154.1 34
        have h164 : m152.1 35 = m136.1 35 := hc155.1 35 rfl
        have h165 : 0 ≤ m152.1 35 ∧ m152.1 35 ≤ 10 := hm154.1 35
        have h0 := p156
        rw [bT, bN, b24, b34, b35, b36] at h0
        clear hW3 hD3 p156
        refine g_if_ne (by omega) (by omega) rfl ?_ ?_
        · intro kk166
          obtain ⟨-, k1, k2, k3, k4_, k5, k6, k7, k8, k9⟩ := h0.resolve_right (fun h => by omega)
          clear h0
          have cX : m152.2.1 65 (4 * m.1 24) = z8 := (k7 _ (by omega)).trans bX
          have cY : ∀ j : Int, j < 4 * m.1 24 → m152.2.1 65 j = m.2.1 65 j := fun j hj => (k7 j (by omega)).trans (bY j hj)
          have c24 : m152.1 24 = m.1 24 := (hc155.1 24 rfl).trans b24
          have c34 : m152.1 34 = m.1 34 := (hc155.1 34 rfl).trans b34
          have c35 : m152.1 35 = m.1 35 := (hc155.1 35 rfl).trans b35
          refine g_iload_n (n := 1) rfl rfl ?_
          refine g_if_ne (by omega) (by omega) rfl ?_ ?_
          · intro kk167
            refine g_aload_n (n := 0) rfl rfl ?_
            refine g_dup rfl rfl ?_
            refine g_getf (v := vI (m152.1 35)) rfl (kl_61 _) rfl ?_
            refine g_iload_n (n := 1) rfl rfl ?_
            refine c_sI (ps := [vI z8]) (r := [vI (m152.1 35), vR 61]) (as := [vI z8]) (cs' := 0) (sl' := 0) rfl rfl rfl rfl rfl rfl (d_isDoorLine (d := d - 1) (q := q - (1 + 19)) (by omega) (by omega) hm154 (a := z8) (show (-2147483648) ≤ z8 ∧ z8 ≤ 2147483647 by omega)) (by omega) (show 1 + 19 ≤ q by omega) (Nat.le_of_ble_eq_true rfl) (Nat.le_of_ble_eq_true rfl) rfl rfl rfl ?_
            rintro z168 m169 ⟨rfl, p171⟩
            refine g_if_eq (by omega) (by omega) rfl ?_ ?_
            · intro kk172
              refine g_iconst rfl ?_
              refine g_iadd rfl ?_
              refine g_putF (m' := (kF m152 35 (m152.1 35 + 0))) rfl (kl_61 _) rfl rfl rfl rfl (kF_35 _ _) ?_
              have hm173 : kI (kF m152 35 (m152.1 35 + 0)) := kI_F hm154 35 (show (0 : Int) ≤ (m152.1 35 + 0) by omega) (show (m152.1 35 + 0) ≤ (10 : Int) by omega)
              have hf174 : fr [24, 31, 32, 33, 34, 35, 36] [65] m (kF m152 35 (m152.1 35 + 0)) := fr_F hf157 35 _ rfl
              refine g_aload_n (n := 0) rfl rfl ?_
              refine g_dup rfl rfl ?_
              refine g_getf (v := vI (m152.1 24)) rfl (kl_61 _) rfl ?_
              refine g_iconst rfl ?_
              refine g_iadd rfl ?_
              refine g_putF (m' := (kF (kF m152 35 (m152.1 35 + 0)) 24 (m152.1 24 + 1))) rfl (kl_61 _) rfl rfl rfl rfl (kF_24 _ _) ?_
              have hm175 : kI (kF (kF m152 35 (m152.1 35 + 0)) 24 (m152.1 24 + 1)) := kI_F hm173 24 (show (0 : Int) ≤ (m152.1 24 + 1) by omega) (show (m152.1 24 + 1) ≤ (10 : Int) by omega)
              have hf176 : fr [24, 31, 32, 33, 34, 35, 36] [65] m (kF (kF m152 35 (m152.1 35 + 0)) 24 (m152.1 24 + 1)) := fr_F hf174 24 _ rfl
              refine g_iconst rfl ?_
              refine g_zret rfl rfl (by omega) ?_
              have hk3 := k3
              have hnz : 1 ≤ z8 := by omega
              have hLW : (1 ≤ z8 ∧ z8 ≤ 6 ∧ LW (m.2.1 64) (m.1 23) p = z8 - 1) ∨ (7 ≤ z8 ∧ LW (m.2.1 64) (m.1 23) p = z8) := by omega
              have e34 : m152.1 34 = LR (m.2.1 64) (m.1 23) p (m.1 34) := by unfold LR; rw [if_neg (by omega)]; exact c34
              have e35 : (m152.1 35 + 0) = LD (m.2.1 64) (m.1 23) p (m.1 35) := by unfold LD; rw [if_neg (by omega)]; split <;> omega
              have e36 : m152.1 36 = LH (m.2.1 64) (m.1 23) p (m.1 34) (m.1 36) := by unfold LH; rw [if_neg (by omega), k3]; by_cases q : z8 = 8; exact (by rw [if_pos q, if_pos (by omega), k5 q]); exact (by rw [if_neg q, if_neg (by omega)])
              have hrw : (m152.1 34, (m152.1 35 + 0), m152.1 36) = rw1 z8 (m152.2.1 65 (4 * m.1 24 + 1)) (m.1 34, m.1 35, m.1 36) := by
                unfold rw1
                rw [if_neg (show ¬ (z8 = 0) by omega)]
                by_cases q6 : z8 ≤ 6
                · rw [if_pos q6]; exact Prod.ext c34 (Prod.ext (by show (m152.1 35 + 0) = m.1 35 + 1; omega) (by show m152.1 36 = m.1 36; rw [k3, if_neg (by omega)]))
                · rw [if_neg q6]; by_cases q8 : z8 = 8
                  · rw [if_pos q8]; exact Prod.ext c34 (Prod.ext (by show (m152.1 35 + 0) = m.1 35; omega) (by show m152.1 36 = stb (m.1 36) _; rw [k3, if_pos q8]))
                  · rw [if_neg q8]; exact Prod.ext c34 (Prod.ext (by show (m152.1 35 + 0) = m.1 35; omega) (by show m152.1 36 = m.1 36; rw [k3, if_neg q8]))
              have hY9 : ∀ g : kY, rw2 z8 (m152.2.1 65 (4 * m.1 24 + 1)) (m152.2.1 65 (4 * m.1 24 + 2)) (m152.2.1 65 (4 * m.1 24 + 3)) (m.1 35) g = LY (m.2.1 64) (m.1 23) p (m.1 34) (m.1 35) g := by
                intro g
                unfold rw2 LY
                rw [if_neg (show ¬ (z8 = 0) by omega), if_neg (show ¬ (LW (m.2.1 64) (m.1 23) p = 6) by omega)]
                by_cases q6 : z8 ≤ 6
                · obtain ⟨u1, u2, u3⟩ := k8 ⟨hnz, q6⟩; rw [if_pos q6, if_pos (show LW (m.2.1 64) (m.1 23) p ≤ 5 by omega), u1, u2, u3, show LW (m.2.1 64) (m.1 23) p = z8 - 1 by omega]
                · rw [if_neg q6, if_neg (show ¬ (LW (m.2.1 64) (m.1 23) p ≤ 5) by omega)]
                  by_cases q10 : z8 = 10
                  · rw [if_pos q10, if_pos (show LW (m.2.1 64) (m.1 23) p = 10 by omega), k9 q10]
                  · rw [if_neg q10, if_neg (show ¬ (LW (m.2.1 64) (m.1 23) p = 10) by omega)]
              exact ⟨_, _, rfl, hm175, hf176, Or.inl ⟨rfl, k1, k2, (show (m152.1 24 + 1) = m.1 24 + 1 by omega), e34, e35, e36, (by show rv (m152.2.1 65 (4 * m.1 24)) _ _ _ _ _; rw [cX]; exact k6), (by show _ = rw1 (m152.2.1 65 (4 * m.1 24)) _ _; rw [cX]; exact hrw), cY, (fun y => by show rw2 (m152.2.1 65 (4 * m.1 24)) _ _ _ _ _ = _; rw [cX]; exact hY9 y)⟩⟩
            · intro kk177
              refine g_iconst rfl ?_
              refine g_goto rfl ?_
              refine g_iadd rfl ?_
              refine g_putF (m' := (kF m152 35 (m152.1 35 + 1))) rfl (kl_61 _) rfl rfl rfl rfl (kF_35 _ _) ?_
              have hm178 : kI (kF m152 35 (m152.1 35 + 1)) := kI_F hm154 35 (show (0 : Int) ≤ (m152.1 35 + 1) by omega) (show (m152.1 35 + 1) ≤ (10 : Int) by omega)
              have hf179 : fr [24, 31, 32, 33, 34, 35, 36] [65] m (kF m152 35 (m152.1 35 + 1)) := fr_F hf157 35 _ rfl
              refine g_aload_n (n := 0) rfl rfl ?_
              refine g_dup rfl rfl ?_
              refine g_getf (v := vI (m152.1 24)) rfl (kl_61 _) rfl ?_
              refine g_iconst rfl ?_
              refine g_iadd rfl ?_
              refine g_putF (m' := (kF (kF m152 35 (m152.1 35 + 1)) 24 (m152.1 24 + 1))) rfl (kl_61 _) rfl rfl rfl rfl (kF_24 _ _) ?_
              have hm180 : kI (kF (kF m152 35 (m152.1 35 + 1)) 24 (m152.1 24 + 1)) := kI_F hm178 24 (show (0 : Int) ≤ (m152.1 24 + 1) by omega) (show (m152.1 24 + 1) ≤ (10 : Int) by omega)
              have hf181 : fr [24, 31, 32, 33, 34, 35, 36] [65] m (kF (kF m152 35 (m152.1 35 + 1)) 24 (m152.1 24 + 1)) := fr_F hf179 24 _ rfl
              refine g_iconst rfl ?_
              refine g_zret rfl rfl (by omega) ?_
              have hk3 := k3
              have hnz : 1 ≤ z8 := by omega
              have hLW : (1 ≤ z8 ∧ z8 ≤ 6 ∧ LW (m.2.1 64) (m.1 23) p = z8 - 1) ∨ (7 ≤ z8 ∧ LW (m.2.1 64) (m.1 23) p = z8) := by omega
              have e34 : m152.1 34 = LR (m.2.1 64) (m.1 23) p (m.1 34) := by unfold LR; rw [if_neg (by omega)]; exact c34
              have e35 : (m152.1 35 + 1) = LD (m.2.1 64) (m.1 23) p (m.1 35) := by unfold LD; rw [if_neg (by omega)]; split <;> omega
              have e36 : m152.1 36 = LH (m.2.1 64) (m.1 23) p (m.1 34) (m.1 36) := by unfold LH; rw [if_neg (by omega), k3]; by_cases q : z8 = 8; exact (by rw [if_pos q, if_pos (by omega), k5 q]); exact (by rw [if_neg q, if_neg (by omega)])
              have hrw : (m152.1 34, (m152.1 35 + 1), m152.1 36) = rw1 z8 (m152.2.1 65 (4 * m.1 24 + 1)) (m.1 34, m.1 35, m.1 36) := by
                unfold rw1
                rw [if_neg (show ¬ (z8 = 0) by omega)]
                by_cases q6 : z8 ≤ 6
                · rw [if_pos q6]; exact Prod.ext c34 (Prod.ext (by show (m152.1 35 + 1) = m.1 35 + 1; omega) (by show m152.1 36 = m.1 36; rw [k3, if_neg (by omega)]))
                · rw [if_neg q6]; by_cases q8 : z8 = 8
                  · rw [if_pos q8]; exact Prod.ext c34 (Prod.ext (by show (m152.1 35 + 1) = m.1 35; omega) (by show m152.1 36 = stb (m.1 36) _; rw [k3, if_pos q8]))
                  · rw [if_neg q8]; exact Prod.ext c34 (Prod.ext (by show (m152.1 35 + 1) = m.1 35; omega) (by show m152.1 36 = m.1 36; rw [k3, if_neg q8]))
              have hY9 : ∀ g : kY, rw2 z8 (m152.2.1 65 (4 * m.1 24 + 1)) (m152.2.1 65 (4 * m.1 24 + 2)) (m152.2.1 65 (4 * m.1 24 + 3)) (m.1 35) g = LY (m.2.1 64) (m.1 23) p (m.1 34) (m.1 35) g := by
                intro g
                unfold rw2 LY
                rw [if_neg (show ¬ (z8 = 0) by omega), if_neg (show ¬ (LW (m.2.1 64) (m.1 23) p = 6) by omega)]
                by_cases q6 : z8 ≤ 6
                · obtain ⟨u1, u2, u3⟩ := k8 ⟨hnz, q6⟩; rw [if_pos q6, if_pos (show LW (m.2.1 64) (m.1 23) p ≤ 5 by omega), u1, u2, u3, show LW (m.2.1 64) (m.1 23) p = z8 - 1 by omega]
                · rw [if_neg q6, if_neg (show ¬ (LW (m.2.1 64) (m.1 23) p ≤ 5) by omega)]
                  by_cases q10 : z8 = 10
                  · rw [if_pos q10, if_pos (show LW (m.2.1 64) (m.1 23) p = 10 by omega), k9 q10]
                  · rw [if_neg q10, if_neg (show ¬ (LW (m.2.1 64) (m.1 23) p = 10) by omega)]
              exact ⟨_, _, rfl, hm180, hf181, Or.inl ⟨rfl, k1, k2, (show (m152.1 24 + 1) = m.1 24 + 1 by omega), e34, e35, e36, (by show rv (m152.2.1 65 (4 * m.1 24)) _ _ _ _ _; rw [cX]; exact k6), (by show _ = rw1 (m152.2.1 65 (4 * m.1 24)) _ _; rw [cX]; exact hrw), cY, (fun y => by show rw2 (m152.2.1 65 (4 * m.1 24)) _ _ _ _ _ = _; rw [cX]; exact hY9 y)⟩⟩
          · intro kk182
            refine g_aload_n (n := 0) rfl rfl ?_
            refine g_aload_n (n := 0) rfl rfl ?_
            refine g_getf (v := vR 65) rfl (kl_61 _) rfl ?_
            refine g_iconst rfl ?_
            refine g_aload_n (n := 0) rfl rfl ?_
            refine g_getf (v := vI (m152.1 24)) rfl (kl_61 _) rfl ?_
            refine g_imul rfl ?_
            refine g_iconst rfl ?_
            refine g_iadd rfl ?_
            have h183 : (-2147483648) ≤ m152.2.1 65 ((4 * m152.1 24) + 1) ∧ m152.2.1 65 ((4 * m152.1 24) + 1) ≤ 2147483647 := hm154.2 65 ((4 * m152.1 24) + 1) (by omega) (show ((4 * m152.1 24) + 1) < (40 : Int) by omega)
            refine g_iald (f := m152.2.1 65) rfl (kl_65 _) (by decide) (by omega) (by omega) ?_
            have ei : m152.2.1 65 ((4 * m152.1 24) + 1) = m152.2.1 65 (4 * m.1 24 + 1) := by rw [c24]
            have hA : 2 ≤ m152.2.1 65 (4 * m.1 24 + 1) ∧ m152.2.1 65 (4 * m.1 24 + 1) ≤ 6 := by unfold rv at k6; omega
            refine g_putF (m' := (kF m152 34 (m152.2.1 65 ((4 * m152.1 24) + 1)))) rfl (kl_61 _) rfl rfl rfl rfl (kF_34 _ _) ?_
            have hm184 : kI (kF m152 34 (m152.2.1 65 ((4 * m152.1 24) + 1))) := kI_F hm154 34 (show (0 : Int) ≤ m152.2.1 65 ((4 * m152.1 24) + 1) by omega) (show m152.2.1 65 ((4 * m152.1 24) + 1) ≤ (6 : Int) by omega)
            have hf185 : fr [24, 31, 32, 33, 34, 35, 36] [65] m (kF m152 34 (m152.2.1 65 ((4 * m152.1 24) + 1))) := fr_F hf157 34 _ rfl
            refine g_aload_n (n := 0) rfl rfl ?_
            refine g_iconst rfl ?_
            refine g_putF (m' := (kF (kF m152 34 (m152.2.1 65 ((4 * m152.1 24) + 1))) 35 0)) rfl (kl_61 _) rfl rfl rfl rfl (kF_35 _ _) ?_
            have hm186 : kI (kF (kF m152 34 (m152.2.1 65 ((4 * m152.1 24) + 1))) 35 0) := kI_F hm184 35 (show (0 : Int) ≤ 0 by omega) (show 0 ≤ (10 : Int) by omega)
            have hf187 : fr [24, 31, 32, 33, 34, 35, 36] [65] m (kF (kF m152 34 (m152.2.1 65 ((4 * m152.1 24) + 1))) 35 0) := fr_F hf185 35 _ rfl
            refine g_aload_n (n := 0) rfl rfl ?_
            refine g_iconst rfl ?_
            refine g_putF (m' := (kF (kF (kF m152 34 (m152.2.1 65 ((4 * m152.1 24) + 1))) 35 0) 36 0)) rfl (kl_61 _) rfl rfl rfl rfl (kF_36 _ _) ?_
            have hm188 : kI (kF (kF (kF m152 34 (m152.2.1 65 ((4 * m152.1 24) + 1))) 35 0) 36 0) := kI_F hm186 36 (show (0 : Int) ≤ 0 by omega) (show 0 ≤ (63 : Int) by omega)
            have hf189 : fr [24, 31, 32, 33, 34, 35, 36] [65] m (kF (kF (kF m152 34 (m152.2.1 65 ((4 * m152.1 24) + 1))) 35 0) 36 0) := fr_F hf187 36 _ rfl
            refine g_aload_n (n := 0) rfl rfl ?_
            refine g_dup rfl rfl ?_
            refine g_getf (v := vI 0) rfl (kl_61 _) rfl ?_
            refine g_iload_n (n := 1) rfl rfl ?_
            refine c_sI (ps := [vI z8]) (r := [vI 0, vR 61]) (as := [vI z8]) (cs' := 0) (sl' := 0) rfl rfl rfl rfl rfl rfl (d_isDoorLine (d := d - 1) (q := q - (1 + 19)) (by omega) (by omega) hm188 (a := z8) (show (-2147483648) ≤ z8 ∧ z8 ≤ 2147483647 by omega)) (by omega) (show 1 + 19 ≤ q by omega) (Nat.le_of_ble_eq_true rfl) (Nat.le_of_ble_eq_true rfl) rfl rfl rfl ?_
            rintro z190 m191 ⟨rfl, p193⟩
            refine g_if_eq (by omega) (by omega) rfl ?_ ?_
            · intro kk194
              refine g_iconst rfl ?_
              refine g_iadd rfl ?_
              refine g_putF (m' := (kF (kF (kF (kF m152 34 (m152.2.1 65 ((4 * m152.1 24) + 1))) 35 0) 36 0) 35 (0 + 0))) rfl (kl_61 _) rfl rfl rfl rfl (kF_35 _ _) ?_
              have hm195 : kI (kF (kF (kF (kF m152 34 (m152.2.1 65 ((4 * m152.1 24) + 1))) 35 0) 36 0) 35 (0 + 0)) := kI_F hm188 35 (show (0 : Int) ≤ (0 + 0) by omega) (show (0 + 0) ≤ (10 : Int) by omega)
              have hf196 : fr [24, 31, 32, 33, 34, 35, 36] [65] m (kF (kF (kF (kF m152 34 (m152.2.1 65 ((4 * m152.1 24) + 1))) 35 0) 36 0) 35 (0 + 0)) := fr_F hf189 35 _ rfl
              refine g_aload_n (n := 0) rfl rfl ?_
              refine g_dup rfl rfl ?_
              refine g_getf (v := vI (m152.1 24)) rfl (kl_61 _) rfl ?_
              refine g_iconst rfl ?_
              refine g_iadd rfl ?_
              refine g_putF (m' := (kF (kF (kF (kF (kF m152 34 (m152.2.1 65 ((4 * m152.1 24) + 1))) 35 0) 36 0) 35 (0 + 0)) 24 (m152.1 24 + 1))) rfl (kl_61 _) rfl rfl rfl rfl (kF_24 _ _) ?_
              have hm197 : kI (kF (kF (kF (kF (kF m152 34 (m152.2.1 65 ((4 * m152.1 24) + 1))) 35 0) 36 0) 35 (0 + 0)) 24 (m152.1 24 + 1)) := kI_F hm195 24 (show (0 : Int) ≤ (m152.1 24 + 1) by omega) (show (m152.1 24 + 1) ≤ (10 : Int) by omega)
              have hf198 : fr [24, 31, 32, 33, 34, 35, 36] [65] m (kF (kF (kF (kF (kF m152 34 (m152.2.1 65 ((4 * m152.1 24) + 1))) 35 0) 36 0) 35 (0 + 0)) 24 (m152.1 24 + 1)) := fr_F hf196 24 _ rfl
              refine g_iconst rfl ?_
              refine g_zret rfl rfl (by omega) ?_
              have hk3 := k3
              have hLW : LW (m.2.1 64) (m.1 23) p = 6 := by omega
              have hrw : (m152.2.1 65 ((4 * m152.1 24) + 1), (0 + 0), 0) = rw1 z8 (m152.2.1 65 (4 * m.1 24 + 1)) (m.1 34, m.1 35, m.1 36) := by unfold rw1; rw [if_pos (show z8 = 0 by omega)]; exact Prod.ext (by show m152.2.1 65 ((4 * m152.1 24) + 1) = _; omega) (Prod.ext (by show (0 + 0) = 0; omega) rfl)
              have e34 : m152.2.1 65 (4 * m.1 24 + 1) = LR (m.2.1 64) (m.1 23) p (m.1 34) := by unfold LR; rw [hLW, if_pos rfl]; exact k4_ (by omega)
              have e35 : (0 + 0) = LD (m.2.1 64) (m.1 23) p (m.1 35) := by unfold LD; rw [hLW, if_pos rfl]; omega
              have e36 : 0 = LH (m.2.1 64) (m.1 23) p (m.1 34) (m.1 36) := by unfold LH; rw [hLW, if_pos rfl]
              have hY9 : ∀ g : kY, rw2 z8 (m152.2.1 65 (4 * m.1 24 + 1)) (m152.2.1 65 (4 * m.1 24 + 2)) (m152.2.1 65 (4 * m.1 24 + 3)) (m.1 35) g = LY (m.2.1 64) (m.1 23) p (m.1 34) (m.1 35) g := by
                intro g
                unfold rw2 LY
                rw [if_pos (show z8 = 0 by omega), if_pos hLW]
              exact ⟨_, _, rfl, hm197, hf198, Or.inl ⟨rfl, k1, k2, (show (m152.1 24 + 1) = m.1 24 + 1 by omega), ((show m152.2.1 65 ((4 * m152.1 24) + 1) = m152.2.1 65 (4 * m.1 24 + 1) by omega).trans e34), e35, e36, (by show rv (m152.2.1 65 (4 * m.1 24)) _ _ _ _ _; rw [cX]; exact k6), (by show _ = rw1 (m152.2.1 65 (4 * m.1 24)) _ _; rw [cX]; exact hrw), cY, (fun y => by show rw2 (m152.2.1 65 (4 * m.1 24)) _ _ _ _ _ = _; rw [cX]; exact hY9 y)⟩⟩
            · intro kk199
              refine g_iconst rfl ?_
              refine g_goto rfl ?_
              refine g_iadd rfl ?_
              refine g_putF (m' := (kF (kF (kF (kF m152 34 (m152.2.1 65 ((4 * m152.1 24) + 1))) 35 0) 36 0) 35 (0 + 1))) rfl (kl_61 _) rfl rfl rfl rfl (kF_35 _ _) ?_
              have hm200 : kI (kF (kF (kF (kF m152 34 (m152.2.1 65 ((4 * m152.1 24) + 1))) 35 0) 36 0) 35 (0 + 1)) := kI_F hm188 35 (show (0 : Int) ≤ (0 + 1) by omega) (show (0 + 1) ≤ (10 : Int) by omega)
              have hf201 : fr [24, 31, 32, 33, 34, 35, 36] [65] m (kF (kF (kF (kF m152 34 (m152.2.1 65 ((4 * m152.1 24) + 1))) 35 0) 36 0) 35 (0 + 1)) := fr_F hf189 35 _ rfl
              refine g_aload_n (n := 0) rfl rfl ?_
              refine g_dup rfl rfl ?_
              refine g_getf (v := vI (m152.1 24)) rfl (kl_61 _) rfl ?_
              refine g_iconst rfl ?_
              refine g_iadd rfl ?_
              refine g_putF (m' := (kF (kF (kF (kF (kF m152 34 (m152.2.1 65 ((4 * m152.1 24) + 1))) 35 0) 36 0) 35 (0 + 1)) 24 (m152.1 24 + 1))) rfl (kl_61 _) rfl rfl rfl rfl (kF_24 _ _) ?_
              have hm202 : kI (kF (kF (kF (kF (kF m152 34 (m152.2.1 65 ((4 * m152.1 24) + 1))) 35 0) 36 0) 35 (0 + 1)) 24 (m152.1 24 + 1)) := kI_F hm200 24 (show (0 : Int) ≤ (m152.1 24 + 1) by omega) (show (m152.1 24 + 1) ≤ (10 : Int) by omega)
              have hf203 : fr [24, 31, 32, 33, 34, 35, 36] [65] m (kF (kF (kF (kF (kF m152 34 (m152.2.1 65 ((4 * m152.1 24) + 1))) 35 0) 36 0) 35 (0 + 1)) 24 (m152.1 24 + 1)) := fr_F hf201 24 _ rfl
              refine g_iconst rfl ?_
              refine g_zret rfl rfl (by omega) ?_
              have hk3 := k3
              have hLW : LW (m.2.1 64) (m.1 23) p = 6 := by omega
              have hrw : (m152.2.1 65 ((4 * m152.1 24) + 1), (0 + 1), 0) = rw1 z8 (m152.2.1 65 (4 * m.1 24 + 1)) (m.1 34, m.1 35, m.1 36) := by unfold rw1; rw [if_pos (show z8 = 0 by omega)]; exact Prod.ext (by show m152.2.1 65 ((4 * m152.1 24) + 1) = _; omega) (Prod.ext (by show (0 + 1) = 0; omega) rfl)
              have e34 : m152.2.1 65 (4 * m.1 24 + 1) = LR (m.2.1 64) (m.1 23) p (m.1 34) := by unfold LR; rw [hLW, if_pos rfl]; exact k4_ (by omega)
              have e35 : (0 + 1) = LD (m.2.1 64) (m.1 23) p (m.1 35) := by unfold LD; rw [hLW, if_pos rfl]; omega
              have e36 : 0 = LH (m.2.1 64) (m.1 23) p (m.1 34) (m.1 36) := by unfold LH; rw [hLW, if_pos rfl]
              have hY9 : ∀ g : kY, rw2 z8 (m152.2.1 65 (4 * m.1 24 + 1)) (m152.2.1 65 (4 * m.1 24 + 2)) (m152.2.1 65 (4 * m.1 24 + 3)) (m.1 35) g = LY (m.2.1 64) (m.1 23) p (m.1 34) (m.1 35) g := by
                intro g
                unfold rw2 LY
                rw [if_pos (show z8 = 0 by omega), if_pos hLW]
              exact ⟨_, _, rfl, hm202, hf203, Or.inl ⟨rfl, k1, k2, (show (m152.1 24 + 1) = m.1 24 + 1 by omega), ((show m152.2.1 65 ((4 * m152.1 24) + 1) = m152.2.1 65 (4 * m.1 24 + 1) by omega).trans e34), e35, e36, (by show rv (m152.2.1 65 (4 * m.1 24)) _ _ _ _ _; rw [cX]; exact k6), (by show _ = rw1 (m152.2.1 65 (4 * m.1 24)) _ _; rw [cX]; exact hrw), cY, (fun y => by show rw2 (m152.2.1 65 (4 * m.1 24)) _ _ _ _ _ = _; rw [cX]; exact hY9 y)⟩⟩
        · intro kk204
          refine g_iconst rfl ?_
          refine g_zret rfl rfl (by omega) ?_
          obtain ⟨-, k1, k2⟩ := h0.resolve_left (fun h => by omega)
          exact ⟨_, _, rfl, hm154, hf157, Or.inr ⟨rfl, k1, k2⟩⟩
      · intro kk205
        refine g_iconst rfl ?_
        refine g_zret rfl rfl (by omega) ?_
        have hs0 : LK (m.2.1 64) (m.1 23) p (m.1 34) (m.1 35) (m.1 36) = 0 ∧ LQ (m.2.1 64) (m.1 23) p (m.1 34) (m.1 35) = SK (m.2.1 64) (m.1 23) p := by
          rcases hw0 with q | q | q | q
          · unfold LK LQ; rw [q.2, if_pos (show (-1 : Int) = -1 from rfl), if_pos (show (-1 : Int) = -1 from rfl)]; exact ⟨rfl, rfl⟩
          · exfalso; omega
          · unfold LK LQ; rw [q.2.2, if_neg (show ¬ ((z8 - 1) = -1) by omega), if_neg (show ¬ ((z8 - 1) = 6) by omega), if_neg (show ¬ ((z8 - 1) = 7 ∨ (z8 - 1) = 10) by omega), if_neg (show ¬ ((z8 - 1) = 8) by omega), if_neg (show ¬ ((z8 - 1) = 9) by omega), if_neg (show ¬ ((z8 - 1) = 11) by omega), if_pos (show 10 ≤ m.1 35 ∨ NUM (m.2.1 64) (m.1 23) 0 (m.1 34 - 1) (EP (m.2.1 64) (m.1 23) p) = -1 ∨ NUM (m.2.1 64) (m.1 23) 0 (m.1 34 - 1) (EP (m.2.1 64) (m.1 23) (EP (m.2.1 64) (m.1 23) p)) = -1 ∨ NUM (m.2.1 64) (m.1 23) 0 (m.1 34 - 1) (EP (m.2.1 64) (m.1 23) (EP (m.2.1 64) (m.1 23) p)) = NUM (m.2.1 64) (m.1 23) 0 (m.1 34 - 1) (EP (m.2.1 64) (m.1 23) p) ∨ NUM (m.2.1 64) (m.1 23) 0 1 (EP (m.2.1 64) (m.1 23) (EP (m.2.1 64) (m.1 23) (EP (m.2.1 64) (m.1 23) p))) = -1 by omega), if_neg (show ¬ ((z8 - 1) = -1) by omega), if_neg (show ¬ ((z8 - 1) = 6 ∨ (z8 - 1) = 7 ∨ (z8 - 1) = 8 ∨ (z8 - 1) = 9 ∨ (z8 - 1) = 10) by omega), if_neg (show ¬ ((z8 - 1) = 11) by omega), if_pos (show 10 ≤ m.1 35 by omega)]; exact ⟨rfl, rfl⟩
          · exfalso; omega
        exact ⟨_, _, rfl, hm, hf0, Or.inr ⟨rfl, hs0.1, by rw [hs0.2]; exact hs⟩⟩
