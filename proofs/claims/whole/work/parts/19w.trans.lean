/-! CLASS AND MODEL, THE SECOND WALK: steps of the relation -/
theorem LkB_em {n o a l : Int} {s : xSt} (h : ∀ k, k < s.1.length → (s.1.getD k (0, 0, 0)).2.2 < n) (hl : l < n) : ∀ k, k < (em o a l s).1.length → ((em o a l s).1.getD k (0, 0, 0)).2.2 < n := by
  intro k hk
  by_cases h3 : s.1.length < 3000
  · have q0 := getD_ap (l := s.1) (x := (o, a, l)) (k := k) h3
    have hk : k < (ap s.1 (o, a, l)).length := hk
    show ((ap s.1 (o, a, l)).getD k (0, 0, 0)).2.2 < n
    rw [q0.1] at hk
    by_cases h4 : k = s.1.length
    · rw [q0.2.2 h4]; exact hl
    · rw [q0.2.1 (by omega)]; exact h k (by omega)
  · have e1 : (em o a l s).1 = s.1 := if_neg h3
    rw [e1] at hk ⊢
    exact h k hk
theorem us_1 {m : Mem} {i k : Int} {s : xSt} : (us m i k s).1 = s.1 ∧ (us m i k s).2.1 = s.2.1 := by
  unfold us
  split <;> exact ⟨rfl, rfl⟩
theorem LkB_xE {mc : Mem} {n : Int} (h5 : mc 68 5 < n) (hn : -1 < n) : ∀ (t : xT) (s : xSt), (∀ k, k < s.1.length → (s.1.getD k (0, 0, 0)).2.2 < n) → ∀ k, k < (xE mc t s).1.length → ((xE mc t s).1.getD k (0, 0, 0)).2.2 < n
  | .tag k (.nest i (.append a b)), s, h => by
    have ha := LkB_xE (mc := mc) h5 hn a
    have hb := LkB_xE (mc := mc) h5 hn b
    have hu : ∀ i k, (∀ k1, k1 < (us mc i k s).1.length → ((us mc i k s).1.getD k1 (0, 0, 0)).2.2 < n) := fun i k => by rw [us_1.1]; exact h
    have hc : ∀ (i k : Int) (s1 : xSt), (∀ k1, k1 < s1.1.length → (s1.1.getD k1 (0, 0, 0)).2.2 < n) → (∀ k1, k1 < (cl mc i k s1).1.length → ((cl mc i k s1).1.getD k1 (0, 0, 0)).2.2 < n) := fun i k s1 g => g
    unfold xE
    split
    · exact ha s h
    · exact LkB_em (hb _ (ha s h)) hn
    · exact hb _ (ha s h)
    · exact hb _ (LkB_em (ha s h) h5)
    · exact h
    · exact hb _ (ha s h)
    · exact hb _ (LkB_em (ha s h) h5)
    · exact h
    · exact LkB_em (ha s h) h5
    · exact ha s h
    · exact LkB_em h hn
    · exact LkB_em h h5
    · split
      · exact LkB_em (hu _ _) hn
      · exact LkB_em h hn
    · exact LkB_em (ha _ (hu _ _)) h5
    · exact LkB_em (hc _ _ _ (ha _ (hu _ _))) h5
    · exact h
    · exact hb _ (ha s h)
    · exact hb _ (ha s h)
    · exact h
  | .nil, _, h => h
  | .line, _, h => h
  | .align _, _, h => h
  | .text _, _, h => h
  | .append _ _, _, h => h
  | .group _ _, _, h => h
  | .nest _ _, _, h => h
  | .tag _ .nil, _, h => h
  | .tag _ .line, _, h => h
  | .tag _ (.align _), _, h => h
  | .tag _ (.text _), _, h => h
  | .tag _ (.append _ _), _, h => h
  | .tag _ (.group _ _), _, h => h
  | .tag _ (.tag _ _), _, h => h
  | .tag _ (.nest _ .nil), _, h => h
  | .tag _ (.nest _ .line), _, h => h
  | .tag _ (.nest _ (.align _)), _, h => h
  | .tag _ (.nest _ (.text _)), _, h => h
  | .tag _ (.nest _ (.nest _ _)), _, h => h
  | .tag _ (.nest _ (.group _ _)), _, h => h
  | .tag _ (.nest _ (.tag _ _)), _, h => h
/-- what an expression puts on the pile -/
def dlt (nt : Nat) (t : xT) : Int := if nt = 2 ∨ nt = 4 then 0 else if nt = 6 ∨ nt = 7 then nA t else 1
theorem xE_pu {mc : Mem} {K V : Int → Int} : ∀ (k : Nat) (t : xT), tsz t < k → ∀ (nt : Nat) (dep p q : Int), nt ≤ 7 → P K V t nt dep p q → ∀ s : xSt, (-2147483648 ≤ s.2.1 ∧ s.2.1 < 2147483648) → (xE mc t s).2.1 = w32 (s.2.1 + dlt nt t) := by
  intro k
  induction k with
  | zero => intro t ht; exact absurd ht (Nat.not_lt_zero _)
  | succ k ih =>
    intro t ht nt dep p q hnt h s hs
    have z0 : s.2.1 = w32 (s.2.1 + 0) := by rw [Int.add_zero, w32_of hs.1 hs.2]
    have hc : nt = 0 ∨ nt = 1 ∨ nt = 2 ∨ nt = 3 ∨ nt = 4 ∨ nt = 5 ∨ nt = 6 ∨ nt = 7 := by omega
    rcases hc with rfl | rfl | rfl | rfl | rfl | rfl | rfl | rfl
    · rcases inv_0 h with ⟨i, a, b, rfl, g1, g2⟩ | ⟨i, a, b, rfl, r, g1, g2, g3, g4⟩
      · rw [tsz_nd] at ht
        exact ih a (by omega) _ _ _ _ (by decide) g1 s hs
      · rw [tsz_nd] at ht
        have c1 : (xE mc a s).2.1 = w32 (s.2.1 + 1) := ih a (by omega) _ _ _ _ (by decide) g1 s hs
        have c2 : (xE mc b (xE mc a s)).2.1 = w32 ((xE mc a s).2.1 + 1) := ih b (by omega) _ _ _ _ (by decide) g4 _ (by rw [c1]; exact w32_r _)
        show w32 ((xE mc b (xE mc a s)).2.1 + -1) = w32 (s.2.1 + 1)
        rw [c2, c1, w32_l, Int.add_assoc, w32_l]
        congr 1
        omega
    · obtain ⟨i, a, b, rfl, r, g1, g2⟩ := inv_1 h
      rw [tsz_nd] at ht
      have c1 : (xE mc a s).2.1 = w32 (s.2.1 + 1) := ih a (by omega) _ _ _ _ (by decide) g1 s hs
      have c2 : (xE mc b (xE mc a s)).2.1 = w32 ((xE mc a s).2.1 + 0) := ih b (by omega) _ _ _ _ (by decide) g2 _ (by rw [c1]; exact w32_r _)
      show (xE mc b (xE mc a s)).2.1 = w32 (s.2.1 + 1)
      rw [c2, c1, w32_l]
      congr 1
      omega
    · rcases inv_2 h with ⟨i, a, b, rfl, g0, r, g1, g2⟩ | ⟨i, a, b, rfl, g1, g2⟩
      · rw [tsz_nd] at ht
        have c1 : (xE mc a s).2.1 = w32 (s.2.1 + 1) := ih a (by omega) _ _ _ _ (by decide) g1 s hs
        have ep : psh i = -1 := by rcases g0 with ⟨rfl, -⟩ | ⟨rfl, -⟩ <;> rfl
        have c3 : (em i 0 (mc 68 5) (xE mc a s)).2.1 = w32 ((xE mc a s).2.1 + -1) := by
          show w32 ((xE mc a s).2.1 + psh i) = _
          rw [ep]
        have c2 : (xE mc b (em i 0 (mc 68 5) (xE mc a s))).2.1 = w32 ((em i 0 (mc 68 5) (xE mc a s)).2.1 + 0) := ih b (by omega) _ _ _ _ (by decide) g2 _ (by rw [c3]; exact w32_r _)
        show (xE mc b (em i 0 (mc 68 5) (xE mc a s))).2.1 = w32 (s.2.1 + 0)
        rw [c2, c3, c1, w32_l, Int.add_assoc, w32_l]
        congr 1
        omega
      · exact z0
    · obtain ⟨i, a, b, rfl, r, g1, g2⟩ := inv_3 h
      rw [tsz_nd] at ht
      have c1 : (xE mc a s).2.1 = w32 (s.2.1 + 1) := ih a (by omega) _ _ _ _ (by decide) g1 s hs
      have c2 : (xE mc b (xE mc a s)).2.1 = w32 ((xE mc a s).2.1 + 0) := ih b (by omega) _ _ _ _ (by decide) g2 _ (by rw [c1]; exact w32_r _)
      show (xE mc b (xE mc a s)).2.1 = w32 (s.2.1 + 1)
      rw [c2, c1, w32_l]
      congr 1
      omega
    · rcases inv_4 h with ⟨i, a, b, rfl, g0, r, g1, g2⟩ | ⟨i, a, b, rfl, g1, g2⟩
      · rw [tsz_nd] at ht
        have c1 : (xE mc a s).2.1 = w32 (s.2.1 + 1) := ih a (by omega) _ _ _ _ (by decide) g1 s hs
        have ep : psh i = -1 := by rcases g0 with ⟨rfl, -⟩ | ⟨rfl, -⟩ | ⟨rfl, -⟩ <;> rfl
        have c3 : (em i 0 (mc 68 5) (xE mc a s)).2.1 = w32 ((xE mc a s).2.1 + -1) := by
          show w32 ((xE mc a s).2.1 + psh i) = _
          rw [ep]
        have c2 : (xE mc b (em i 0 (mc 68 5) (xE mc a s))).2.1 = w32 ((em i 0 (mc 68 5) (xE mc a s)).2.1 + 0) := ih b (by omega) _ _ _ _ (by decide) g2 _ (by rw [c3]; exact w32_r _)
        show (xE mc b (em i 0 (mc 68 5) (xE mc a s))).2.1 = w32 (s.2.1 + 0)
        rw [c2, c3, c1, w32_l, Int.add_assoc, w32_l]
        congr 1
        omega
      · exact z0
    · rcases inv_5 h with ⟨i, a, b, rfl, g1, g2, g3⟩ | ⟨i, a, b, rfl, g1, g2, r, g3, g4, g5⟩ | ⟨i, a, b, rfl, g1, g2, g3⟩ | ⟨i, a, b, rfl, g1, g2⟩ | ⟨i, a, b, rfl, g1, g2, g3, g4, g5⟩ | ⟨i, a, b, rfl, g1, g2, g3, g4, r, g5, g6, g7⟩ | ⟨i, a, b, rfl, g1, g2, g3⟩
      · rw [tsz_nd] at ht
        have c1 : (xE mc a s).2.1 = w32 (s.2.1 + 1) := ih a (by omega) _ _ _ _ (by decide) g3 s hs
        show w32 ((xE mc a s).2.1 + 0) = w32 (s.2.1 + 1)
        rw [c1, w32_l]
        congr 1
        omega
      · rw [tsz_nd] at ht
        exact ih a (by omega) _ _ _ _ (by decide) g3 s hs
      · rfl
      · rfl
      · rw [x_13]
        split
        · show w32 ((us mc i 1 s).2.1 + 1) = w32 (s.2.1 + 1)
          rw [us_1.2]
        · rfl
      · rw [tsz_nd] at ht
        have c1 : (xE mc a (us mc i 2 s)).2.1 = w32 ((us mc i 2 s).2.1 + 1) := ih a (by omega) _ _ _ _ (by decide) g5 _ (by rw [us_1.2]; exact hs)
        show w32 ((xE mc a (us mc i 2 s)).2.1 + 0) = w32 (s.2.1 + 1)
        rw [c1, w32_l, us_1.2]
        congr 1
        omega
      · rw [tsz_nd] at ht
        have c1 : (xE mc a (us mc i 4 s)).2.1 = w32 ((us mc i 4 s).2.1 + nA a) := ih a (by omega) _ _ _ _ (by decide) g3 _ (by rw [us_1.2]; exact hs)
        show w32 (w32 ((xE mc a (us mc i 4 s)).2.1 - nA a) + 1) = w32 (s.2.1 + 1)
        rw [c1, w32_l, Int.sub_eq_add_neg, Int.add_assoc, w32_l, us_1.2]
        congr 1
        omega
    · rcases inv_6 h with ⟨i, a, b, rfl, g1, g2, g3, g4⟩ | ⟨i, a, b, rfl, g1, g2, g3, r, g4, g5⟩
      · exact z0
      · rw [tsz_nd] at ht
        have c1 : (xE mc a s).2.1 = w32 (s.2.1 + 1) := ih a (by omega) _ _ _ _ (by decide) g4 s hs
        have c2 : (xE mc b (xE mc a s)).2.1 = w32 ((xE mc a s).2.1 + nA b) := ih b (by omega) _ _ _ _ (by decide) g5 _ (by rw [c1]; exact w32_r _)
        show (xE mc b (xE mc a s)).2.1 = w32 (s.2.1 + (nA b + 1))
        rw [c2, c1, w32_l]
        congr 1
        omega
    · rcases inv_7 h with ⟨i, a, b, rfl, g1, r, g2, g3⟩ | ⟨i, a, b, rfl, g1, g2⟩
      · rw [tsz_nd] at ht
        have c1 : (xE mc a s).2.1 = w32 (s.2.1 + 1) := ih a (by omega) _ _ _ _ (by decide) g2 s hs
        have c2 : (xE mc b (xE mc a s)).2.1 = w32 ((xE mc a s).2.1 + nA b) := ih b (by omega) _ _ _ _ (by decide) g3 _ (by rw [c1]; exact w32_r _)
        show (xE mc b (xE mc a s)).2.1 = w32 (s.2.1 + (nA b + 1))
        rw [c2, c1, w32_l]
        congr 1
        omega
      · exact z0
section SRt
variable {mc m m' : Mem} {s s' : xSt} {y : yS} {σ : Int → Int} {D H p p' e : Int} {G : Prop}
theorem lcK_eq (f172 : ∀ k, m' 172 k = m 172 k) (f30 : m' 158 30 = m 158 30) {c : Int} : lcK m' c = lcK m c := by
  unfold lcK
  have e1 : m' 172 = m 172 := funext f172
  rw [e1, f30]
theorem topK_eq (f165 : ∀ k, m' 165 k = m 165 k) (f17 : m' 158 17 = m 158 17) {c : Int} : topK m' c = topK m c := by
  unfold topK
  have e1 : m' 165 = m 165 := funext f165
  rw [e1, f17]
theorem SR_fr (R : SR mc s y m σ D G H p) (hpp : p ≤ p') (X : RX s' m' σ D G) (lk' : ∀ k, k < s'.1.length → (s'.1.getD k (0, 0, 0)).2.2 < (y.1.length : Int)) (f172 : ∀ k, m' 172 k = m 172 k) (f181 : ∀ k, m' 181 k = m 181 k) (f165 : ∀ k, m' 165 k = m 165 k) (fk : ∀ k, k = 17 ∨ k = 30 ∨ k = 31 ∨ k = 33 ∨ k = 39 ∨ k = 46 ∨ k = 48 → m' 158 k = m 158 k) : SR mc s' y m' σ D G H p' := by
  have f30 := fk 30 (by omega)
  have hlc : ∀ c, lcK m' c = lcK m c := fun c => lcK_eq f172 f30
  have htc : ∀ c, topK m' c = topK m c := fun c => topK_eq f165 (fk 17 (by omega))
  have w0 := R.l0
  have w1 := R.wh
  have w2 := R.lx
  refine ⟨X, lk', ?_, R.lb, R.lj, fun k h1 h2 => ?_, R.s1, ?_, R.hl, ?_, ?_, fun j hj => ?_, fun id h0 h1 => ?_, fun j hj => ?_, ?_, ?_, ?_⟩
  · rw [fk 46 (by omega)]; exact R.la
  · rw [f181]; exact R.ls k h1 h2
  · rw [fk 48 (by omega)]; exact R.hd
  · rw [f30]; exact R.ln
  · rw [f30]; omega
  · rw [f30] at hj
    rw [f172]; exact R.lh j hj
  · rw [hlc]; exact R.lm id h0 h1
  · rw [f30] at hj
    rw [f172, hlc, htc]; exact R.ld j hj
  · rw [f30, fk 31 (by omega)]; exact w2
  · rw [fk 33 (by omega)]; exact R.pr
  · rw [fk 39 (by omega)]; omega
theorem SR_Fm {n : Int} (R : SR mc s y m σ D G H p) (f : Fm m m' n) (hpp : p ≤ p') (X : RX s' m' σ D G) (lk' : ∀ k, k < s'.1.length → (s'.1.getD k (0, 0, 0)).2.2 < (y.1.length : Int)) : SR mc s' y m' σ D G H p' := SR_fr R hpp X lk' (fun k => f.1 172 k (by omega)) (fun k => f.1 181 k (by omega)) (fun k => f.1 165 k (by omega)) (fun k hk => f.2.1 k (by omega) (by omega) (by omega) (by omega) (by omega) (by omega) (by omega))
theorem SR_em {o a l u lm : Int} (R : SR mc s y m σ D G H p) (hb : m 158 15 = 0) (h41 : m 158 41 < 3000) (hu : psh o = u) (hl : lm = σ l) (hll : l < (y.1.length : Int)) : SR mc (em o a l s) y (emG m o a lm u false) σ D G H p := SR_Fm R (Fm_emG (Or.inl hb)) (Int.le_refl _) (RX_em R.rx hb h41 hu hl) (LkB_em R.lk hll)
theorem SR_p (R : SR mc s y m σ D G H p) (h : p ≤ p') : SR mc s y m σ D G H p' := SR_fr R h R.rx R.lk (fun _ => rfl) (fun _ => rfl) (fun _ => rfl) (fun _ _ => rfl)
/-- an order behind which the pile is empty -/
theorem emF_t {o a l u : Int} {r k : Nat} (h : ¬ (r = 158 ∧ k = 52)) : emF m o a l u true r k = emF m o a l u false r k := by
  have e0 : emF m o a l u true = put (emF m o a l u false) 158 52 0 := (rfl)
  rw [e0]
  rw [put_ss]
  by_cases h1 : r = 158
  · subst h1
    rw [if_pos rfl, if_neg (fun z => h ⟨rfl, z⟩)]
  · rw [if_neg h1]
theorem emF_t52 {o a l u : Int} : emF m o a l u true 158 52 = 0 := by
  unfold emF
  rw [if_pos rfl]
  rfl
theorem SR_emz {o a l u lm : Int} (R : SR mc s y m σ D G H p) (hb : m 158 15 = 0) (h41 : m 158 41 < 3000) (hu : psh o = u) (h0 : w32 (s.2.1 + u) = 0) (hl : lm = σ l) (hll : l < (y.1.length : Int)) : SR mc (em o a l s) y (emG m o a lm u true) σ D G H p := by
  have X := RX_em R.rx hb h41 (a := a) hu hl
  have e0 : emG m o a lm u false = emF m o a lm u false := if_pos hb
  have e1 : emG m o a lm u true = emF m o a lm u true := if_pos hb
  rw [e0] at X
  refine SR_Fm R (Fm_emG (Or.inl hb)) (Int.le_refl _) ?_ (LkB_em R.lk hll)
  rw [e1]
  refine ⟨?_, fun g k hk => ?_, fun g hc => ?_, X.nf, fun g => ?_⟩
  · rw [emF_t (by omega)]; exact X.len
  · rw [emF_t (by omega), emF_t (by omega), emF_t (by omega)]; exact X.ops g k hk
  · refine ⟨?_, ?_⟩
    · rw [emF_t52]
      show w32 (s.2.1 + psh o) = 0
      rw [hu]; exact h0
    · rw [emF_t (by omega)]; exact (X.pus g hc).2
  · rw [emF_t (by omega)]; exact X.cf g
/-- new labels -/
theorem SR_ext {y' : yS} {σ' : Int → Int} {c : Nat} (R : SR mc s y m σ D G H p) (hy1 : y'.1 = y.1 ++ List.replicate c (-1)) (hy2 : y'.2 = y.2) (e1 : ∀ k : Int, k < (y.1.length : Int) → σ' k = σ k) (e2 : ∀ k : Int, (y.1.length : Int) ≤ k → k < (y.1.length : Int) + c → (y.1.length : Int) ≤ σ' k ∧ σ' k < (y.1.length : Int) + c) (e3 : ∀ j k : Int, (y.1.length : Int) ≤ j → j < (y.1.length : Int) + c → (y.1.length : Int) ≤ k → k < (y.1.length : Int) + c → σ' j = σ' k → j = k) (hX : ∀ a k, ¬ (a = 158 ∧ k = 46) → m' a k = m a k) (h46 : m' 158 46 = m 158 46 + c) : SR mc s y' m' σ' D G H p := by
  have hlen : (y'.1.length : Int) = (y.1.length : Int) + c := by
    rw [hy1, List.length_append, List.length_replicate]
    omega
  have hlc : ∀ c, lcK m' c = lcK m c := fun c => lcK_eq (fun k => hX 172 k (by omega)) (hX 158 30 (by omega))
  have htc : ∀ c, topK m' c = topK m c := fun c => topK_eq (fun k => hX 165 k (by omega)) (hX 158 17 (by omega))
  have hh := R.hl
  have lb := R.lb
  have X := R.rx
  refine ⟨⟨?_, fun g k hk => ?_, fun g hc => ?_, X.nf, fun g => ?_⟩, fun k hk => ?_, ?_, fun k h0 h1 => ?_, fun j k j0 j1 k0 k1 hs => ?_, fun k h1 h2 => ?_, ?_, ?_, ?_, ?_, ?_, fun j hj => ?_, fun id h0 h1 => ?_, fun j hj => ?_, ?_, ?_, ?_⟩
  · rw [hX _ _ (by omega)]; exact X.len
  · rw [hX _ _ (by omega), hX _ _ (by omega), hX _ _ (by omega), e1 _ (R.lk k hk)]; exact X.ops g k hk
  · rw [hX _ _ (by omega), hX _ _ (by omega)]; exact X.pus g hc
  · rw [hX _ _ (by omega)]; exact X.cf g
  · have := R.lk k hk
    omega
  · rw [h46, hlen, R.la]
  · by_cases hk : k < (y.1.length : Int)
    · rw [e1 k hk]
      have := lb k h0 hk
      omega
    · have := e2 k (by omega) (by omega)
      omega
  · by_cases hj : j < (y.1.length : Int)
    · by_cases hk : k < (y.1.length : Int)
      · rw [e1 j hj, e1 k hk] at hs
        exact R.lj j k j0 hj k0 hk hs
      · rw [e1 j hj] at hs
        have q1 := lb j j0 hj
        have q2 := e2 k (by omega) (by omega)
        omega
    · by_cases hk : k < (y.1.length : Int)
      · rw [e1 k hk] at hs
        have q1 := lb k k0 hk
        have q2 := e2 j (by omega) (by omega)
        omega
      · exact e3 j k (by omega) (by omega) (by omega) (by omega) hs
  · rw [hX _ _ (by omega)]
    by_cases hk : k < y.1.length
    · have g1 : y'.1.getD k 0 = y.1.getD k 0 := by
        rw [hy1, List.getD_eq_getElem?_getD, List.getD_eq_getElem?_getD, List.getElem?_append_left hk]
      rw [g1] at h2 ⊢
      rw [e1 k (by omega)]
      exact R.ls k hk h2
    · exfalso
      apply h2
      rw [hy1, List.getD_eq_getElem?_getD, List.getElem?_append_right (by omega), List.getElem?_replicate, if_pos (by omega)]
      rfl
  · rw [e1 _ (by omega)]; exact R.s1
  · rw [hX _ _ (by omega), e1 _ hh.2]; exact R.hd
  · omega
  · rw [hy2, hX _ _ (by omega)]; exact R.ln
  · rw [hX _ _ (by omega)]; exact R.l0
  · rw [hX _ _ (by omega)] at hj
    rw [hy2, hX _ _ (by omega)]; exact R.lh j hj
  · rw [hy2, hlc]; exact R.lm id h0 h1
  · rw [hX _ _ (by omega)] at hj
    rw [hX _ _ (by omega), hlc, htc]; exact R.ld j hj
  · rw [hy2, hX _ _ (by omega), hX _ _ (by omega)]; exact R.lx
  · rw [hX _ _ (by omega)]; exact R.pr
  · rw [hX _ _ (by omega)]; exact R.wh
/-- a label stands here -/
theorem SR_st {l : Int} (R : SR mc s y m σ D G H p) (h0 : 0 ≤ l) (h1 : l < (y.1.length : Int)) : SR mc s (slb l (s.1.length : Int) y) (put m 181 (σ l).toNat (m 158 41)) σ D G H p := by
  have e0 : slb l (s.1.length : Int) y = (y.1.set l.toNat (s.1.length : Int), y.2) := if_pos ⟨h0, h1⟩
  rw [e0]
  have hlen : (y.1.set l.toNat (s.1.length : Int)).length = y.1.length := List.length_set
  have hX : ∀ a k, a ≠ 181 → put m 181 (σ l).toNat (m 158 41) a k = m a k := fun a k h => by rw [put_ss, if_neg h]
  have hlc : ∀ c, lcK (put m 181 (σ l).toNat (m 158 41)) c = lcK m c := fun c => lcK_eq (fun k => hX 172 k (by omega)) (hX 158 30 (by omega))
  have htc : ∀ c, topK (put m 181 (σ l).toNat (m 158 41)) c = topK m c := fun c => topK_eq (fun k => hX 165 k (by omega)) (hX 158 17 (by omega))
  have X := R.rx
  refine ⟨⟨X.len, X.ops, X.pus, X.nf, X.cf⟩, ?_, ?_, ?_, ?_, fun k h2 h3 => ?_, R.s1, R.hd, ?_, R.ln, R.l0, R.lh, fun id i0 i1 => ?_, fun j hj => ?_, R.lx, R.pr, R.wh⟩
  · rw [hlen]; exact R.lk
  · rw [hlen]; exact R.la
  · rw [hlen]; exact R.lb
  · rw [hlen]; exact R.lj
  · rw [hlen] at h2
    rw [put_ss, if_pos rfl]
    have h3' : (y.1.set l.toNat (s.1.length : Int)).getD k 0 ≠ -1 := h3
    show _ = (y.1.set l.toNat (s.1.length : Int)).getD k 0
    rw [List.getD_eq_getElem?_getD, List.getElem?_set] at h3' ⊢
    have lbk := R.lb k (by omega) (by omega)
    have lbl := R.lb l h0 h1
    by_cases hk : l.toNat = k
    · have hkl : (k : Int) = l := by omega
      have hk3 : l.toNat < y.1.length := by omega
      rw [if_pos hk, if_pos hk3, hkl, if_pos rfl]
      exact X.len.symm
    · rw [if_neg hk] at h3' ⊢
      have hne : ¬ (σ k).toNat = (σ l).toNat := fun z => by
        have := R.lj k l (by omega) (by omega) h0 h1 (by omega)
        omega
      rw [if_neg hne]
      rw [← List.getD_eq_getElem?_getD] at h3' ⊢
      exact R.ls k h2 h3'
  · rw [hlen]; exact R.hl
  · rw [hlc]; exact R.lm id i0 i1
  · rw [hlc, htc]; exact R.ld j hj
end SRt
