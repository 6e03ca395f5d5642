/-! A PROGRAM THAT IS LAID, in the model's cells -/
section Tpc
variable {O A G O2 A2 G2 : Nat → Int} {fe : Nat → Nat} {np n : Nat} {pr pr2 vw vw2 sz sz2 wt wt2 h : Nat → Int} {nv nc : Int}
theorem TyP_c (T : TyP O A G fe np n pr vw nv nc sz wt h) (hO : ∀ k, k < n → O2 k = O k ∧ A2 k = A k ∧ G2 k = G k) (hp : ∀ p, p < np → pr2 p = pr p ∧ sz2 p = sz p ∧ wt2 p = wt p) (hv : ∀ k : Nat, (k : Int) < nv → vw2 k = vw k) : TyP O2 A2 G2 fe np n pr2 vw2 nv nc sz2 wt2 h := by
  obtain ⟨S, hn, T⟩ := T
  have hle : ∀ p, p < np → fe (p + 1) ≤ n := fun p h1 => by
    have := sg_mo S (p := p + 1) np (by omega) (Nat.le_refl _)
    omega
  refine ⟨⟨S.1, fun p h1 => ?_⟩, hn, fun p h1 => ?_⟩
  · obtain ⟨s1, s2, s3, s4⟩ := S.2 p h1
    have := hle p h1
    rw [(hO (fe p) (by omega)).1, (hO (fe p) (by omega)).2.1, (hO (fe (p + 1) - 1) (by omega)).1, (hO (fe (p + 1) - 1) (by omega)).2.1]
    refine ⟨s1, s2, s3, fun k k1 k2 => ?_⟩
    rw [(hO k (by omega)).1, (hO k (by omega)).2.1]
    exact s4 k k1 k2
  · obtain ⟨ml, mx, t1, t2, t3, t4⟩ := T p h1
    have hl := hle p h1
    have s1 := (S.2 p h1).1
    obtain ⟨p1, p2, p3⟩ := hp p h1
    refine ⟨ml, mx, ?_, by rw [p2]; exact t2, by rw [p3, p1]; exact t3, by rw [p1]; exact t4⟩
    obtain ⟨q1, q2, q3, q4⟩ := t1
    refine ⟨by rw [p1]; exact q1, q2, by rw [(hO _ (by omega)).1]; exact q3, fun k k1 k2 => ?_⟩
    obtain ⟨x1, x2, x3, x4, x5⟩ := q4 k k1 k2
    obtain ⟨y1, y2, y3⟩ := hO k (by omega)
    rw [y1, y2, y3]
    obtain ⟨z1, z2, z3, z4, z5, z6, z7, z8, z9, z10, z11, z12, z13⟩ := x1
    have epr : O k = 17 → pr2 (A k).toNat = pr (A k).toNat := fun w => (hp _ (by have := z8 w; omega)).1
    refine ⟨⟨z1, ?_, z3, z4, fun w => ⟨(z5 w).1, ?_⟩, z6, z7, z8, z9, z10, z11, z12, z13⟩, ?_, x3, fun w => ?_, x5⟩
    · unfold popF at z2 ⊢
      by_cases c : O k = 17
      · rw [if_pos c] at z2 ⊢
        rw [epr c]
        exact z2
      · rw [if_neg c] at z2 ⊢
        exact z2
    · have := (z5 w).1
      rw [hv _ (by omega)]
      exact (z5 w).2
    · by_cases c : O k = 17
      · rw [if_pos c] at x2 ⊢
        rw [epr c]
        exact x2
      · rw [if_neg c] at x2 ⊢
        exact x2
    · obtain ⟨g1, g2⟩ := x4 w
      refine ⟨g1, ?_⟩
      rw [(hO _ (by omega)).1]
      exact g2
end Tpc
section Lai
variable {M Z : Mem} {np n : Nat} {fe : Nat → Nat} {h u : Nat → Int} {nv nc mn : Int} {E W : Nat → Int}
/-- the pieces of a list of orders -/
theorem ml_pc {m : Mem} {P N : Int → Int} {W : Nat → Int} {A : Int} : ∀ (n : Nat), WdOk P N W (mlI m 0 n) A → cX P (mlI m 0 n) A = false → ∀ i, i < n → WdOk P N W (dM m 0 (ngo (mlI m 0 i)) i) (A + ((mlI m 0 i).length : Int)) ∧ cX P (dM m 0 (ngo (mlI m 0 i)) i) (A + ((mlI m 0 i).length : Int)) = false
  | 0, _, _, i, hi => absurd hi (Nat.not_lt_zero _)
  | n + 1, hw, hc, i, hi => by
    have hw2 : WdOk P N W (mlI m 0 n ++ dM m 0 (ngo (mlI m 0 n)) n) A := hw
    have hc2 : cX P (mlI m 0 n ++ dM m 0 (ngo (mlI m 0 n)) n) A = false := hc
    rw [WdOk_app] at hw2
    rw [cX_app, Bool.or_eq_false_iff] at hc2
    by_cases e : i < n
    · exact ml_pc n hw2.1 hc2.1 i e
    · have : i = n := by omega
      subst this
      exact ⟨hw2.2, hc2.2⟩
/-- what the model's cells hold of a program that was laid by E with words W -/
def ZC (M Z : Mem) (np n : Nat) (nv mn : Int) (E W : Nat → Int) : Prop := (∀ i, i < n → Z 184 i = M 177 i ∧ Z 185 i = M 178 i ∧ Z 186 i = tgM M i ∧ Z 187 i = 82 + ((mlI (fv E M) 0 i).length : Int)) ∧ (∀ p, p < np → Z 188 p = M 170 p ∧ Z 189 p = szM M p ∧ Z 190 p = wtM M p ∧ Z 191 p = M 182 p ∧ ∀ c, c < 40 → Z 192 (40 * p + c) = if rsB M p c = true then 1 else 0) ∧ (Z 158 67 = mn ∧ Z 158 68 = 82 + ((mlI (fv E M) 0 n).length : Int) ∧ Z 158 70 = vsm M nv.toNat ∧ Z 158 71 = nv) ∧ (∀ k : Nat, (k : Int) < Z 158 68 → Z 193 k = W k) ∧ (∀ k : Nat, (k : Int) < nv → Z 194 k = M 168 k)
theorem vat_e (hz : ∀ k : Nat, (k : Int) < nv → Z 194 k = M 168 k) : ∀ k : Nat, (k : Int) ≤ nv → vatq Z k = vsm M k
  | 0, _ => rfl
  | k + 1, hk => by
    show vatq Z k + Z 194 k = vsm M k + M 168 k
    rw [vat_e hz k (by omega), hz k (by omega)]
theorem ml_mono {m : Mem} : ∀ (d i : Nat), (mlI m 0 i).length ≤ (mlI m 0 (i + d)).length
  | 0, i => Nat.le_refl _
  | d + 1, i => by
    have z := ml_mono (m := m) d i
    have e : (mlI m 0 (i + (d + 1))).length = (mlI m 0 (i + d)).length + (dM m 0 (ngo (mlI m 0 (i + d))) (i + d)).length := by
      show (mlI m 0 (i + d) ++ dM m 0 (ngo (mlI m 0 (i + d))) (i + d)).length = _
      rw [List.length_append]
    omega
theorem rcM_mem {m : Mem} {c : Int} : ∀ (j : Nat) (f : Int), 0 ≤ f → (c ∈ rcM m f j ↔ ∃ k : Nat, k < j ∧ c = m 175 (f + (k : Int)).toNat)
  | 0, f, _ => ⟨fun h => absurd h List.not_mem_nil, fun ⟨k, hk, _⟩ => absurd hk (Nat.not_lt_zero _)⟩
  | j + 1, f, hf => by
    show c ∈ m 175 f.toNat :: rcM m (f + 1) j ↔ _
    rw [List.mem_cons, rcM_mem j (f + 1) (by omega)]
    constructor
    · rintro (h | ⟨k, h1, h2⟩)
      · exact ⟨0, by omega, by rw [h]; exact congrArg (m 175) (by omega)⟩
      · exact ⟨k + 1, by omega, by rw [h2]; exact congrArg (m 175) (by omega)⟩
    · rintro ⟨k, h1, h2⟩
      cases k with
      | zero => exact Or.inl (by rw [h2]; exact congrArg (m 175) (by omega))
      | succ k => exact Or.inr ⟨k, by omega, by rw [h2]; exact congrArg (m 175) (by omega)⟩
theorem rsB_m {p c : Nat} (h0 : 0 ≤ M 173 p) : rsB M p c = true ↔ (c : Int) ∈ csM M (p : Int) := by
  unfold rsB csM
  rw [Int.toNat_natCast, rcM_mem _ _ h0, List.any_eq_true]
  constructor
  · rintro ⟨j, h1, h2⟩
    exact ⟨j, List.mem_range.1 h1, of_decide_eq_true h2⟩
  · rintro ⟨k, h1, h2⟩
    exact ⟨k, List.mem_range.2 h1, decide_eq_true h2⟩
theorem PRQ_mk {Y : Mem} {C : Nat → Int} (T : TyP (M 177) (M 178) (tgM M) fe np n (M 170) (M 168) nv nc (fun p => M 170 p + 2 + M 171 p) (fun p => w32 (2 + M 171 p + M 183 p + 3)) h) (D : MD M np n nv) (hnc : nc ≤ 30) (K : LM M (M 182 mn.toNat) n) (hb : b01 E) (h182 : ∀ p, p < np → M 182 p = (fe p : Int)) (hpz : ∀ p, p < np → szM M p = M 170 p + 2 + M 171 p ∧ wtM M p = w32 (2 + M 171 p + M 183 p + 3) ∧ M 170 p ≤ 8) (hmn : (0 ≤ mn ∧ mn < (np : Int)) ∧ M 170 mn.toNat = 0) (hrs : ∀ p, p < np → M 174 p ≤ 80 ∧ ∀ c ∈ csM M (p : Int), 1 ≤ c ∧ c ≤ 30) (hAJ : ∀ k, k + 1 < n → M 177 k = 23 ∨ M 177 k = 24 → M 177 (k + 1) = 24 ∨ M 177 (k + 1) = 25) (hU : ∀ p, p < np → u (fe p + 1) ≤ M 170 p ∧ ∀ k, fe p < k → k < fe (p + 1) - 1 → (M 177 k = 2 → M 178 k < u k) ∧ (M 177 k = 3 → M 178 k ≤ u k) ∧ (u (k + 1) ≤ if M 177 k = 3 ∧ M 178 k = u k then u k + 1 else u k) ∧ (isR (M 177 k) ∨ isJ (M 177 k) → u (tgM M k).toNat ≤ u k)) (hch : chE M (M 182 mn.toNat) n E = false) (hNt : ∀ i, i ∈ itA M E (M 182 mn.toNat) n → i.2.1 = 4 → (0 ≤ i.2.2 ∧ i.2.2 < (n : Int)) ∨ i.2.2 = -1 ∨ (0 ≤ -10 - i.2.2 ∧ -10 - i.2.2 < nv)) (hC : CdOk C (itA M E (M 182 mn.toNat) n) 0) (hW : WdOk (gP Y) (ntv Y) W (itA M E (M 182 mn.toNat) n) 0) (hY : (∀ i, i < n → Y 180 i = 82 + ((mlI (fv E M) 0 i).length : Int)) ∧ Y 158 74 = 82 + ((mlI (fv E M) 0 n).length : Int) ∧ Y 158 75 = vsm M nv.toNat ∧ ∀ k : Nat, (k : Int) < nv → Y 169 k = 82 + ((mlI (fv E M) 0 n).length : Int) + vsm M k) (hZ : ZC M Z np n nv mn E W) (hfit : Z 158 68 + Z 158 70 ≤ 6000) : PRQ Z np n fe h u nc (fun p => csM M (p : Int)) := by
  obtain ⟨z1, z2, ⟨z67, z68, z70, z71⟩, z193, z194⟩ := hZ
  obtain ⟨y1, y2, y3, y4⟩ := hY
  obtain ⟨hO, -, -, -, -, -, hL⟩ := K
  have hL := hL E hb
  obtain ⟨d41, d25, d21, dnp, dn, dnv, d168, d179, dR, d36, d175, d83, d84⟩ := D
  have hv := vsm_b d168
  have S := T.1
  have hfe := T.2.1
  have hB : Bq Z = Z 158 68 + Z 158 70 := rfl
  -- the words by the kept cells
  have pP : ∀ t : Int, 0 ≤ t → t < (n : Int) → Pq Z t = 82 + ((mlI (fv E M) 0 t.toNat).length : Int) := fun t a b => (z1 t.toNat (by omega)).2.2.2
  have hWZ : WdOk (Pq Z) (Nq Z) W (itA M E (M 182 mn.toNat) n) 0 := by
    have w2 := pat_ok (P := Pq Z) (N := Nq Z) (Wf_A (E := E) (e := M 182 mn.toNat) hO) 0 C (Int.le_refl 0) hC
    have e := WdOk_e (Wf_A (E := E) (e := M 182 mn.toNat) hO) 0 (Int.le_refl 0) hW w2 (fun i hi hg => by
      obtain ⟨a, b⟩ := hL i hi hg
      unfold gP
      rw [pP _ a b, y1 _ (by omega)]) (fun i hi h4 => by
      unfold ntv Nq
      rcases hNt i hi h4 with ⟨a, b⟩ | a | ⟨a, b⟩
      · rw [if_pos a, if_pos a, y1 _ (by omega), (z1 _ (by omega)).2.2.2]
      · rw [if_neg (by omega), if_pos a, if_neg (by omega), if_pos a, hB, y2, y3, z68, z70]
      · rw [if_neg (by omega), if_neg (by omega), if_neg (by omega), if_neg (by omega), y4 _ (by omega), z68, vat_e (Z := Z) (M := M) z194 _ (by omega)])
    exact WdOk_fr _ 0 (Int.le_refl 0) (fun k k0 k1 => e k k0 k1) w2
  have hlen : ((itA M E (M 182 mn.toNat) n).length : Int) = Z 158 68 := by
    unfold itA
    rw [List.length_append, hdI_l, z68]
    omega
  have hW3 : WdOk (Pq Z) (Nq Z) (Z 193) (itA M E (M 182 mn.toNat) n) 0 := WdOk_fr _ 0 (Int.le_refl 0) (fun k k0 k1 => z193 k (by omega)) hWZ
  have hcx : cX (Pq Z) (itA M E (M 182 mn.toNat) n) 0 = false := by
    have w : cX (pA M E n) (itA M E (M 182 mn.toNat) n) 0 = false := hch
    rw [← cX_c (P := pA M E n) (fun i hi hg => by
      obtain ⟨a, b⟩ := hL i hi hg
      rw [pP _ a b]
      unfold pA
      rw [if_pos (by omega)])]
    exact w
  have hW4 : WdOk (Pq Z) (Nq Z) (Z 193) (hdI (M 182 mn.toNat) ++ mlI (fv E M) 0 n) 0 := hW3
  have hcx4 : cX (Pq Z) (hdI (M 182 mn.toNat) ++ mlI (fv E M) 0 n) 0 = false := hcx
  rw [WdOk_app, hdI_l] at hW4
  rw [cX_app, hdI_l, Bool.or_eq_false_iff] at hcx4
  have PC := ml_pc (m := fv E M) n hW4.2 hcx4.2
  have T2 : TyP (Z 184) (Z 185) (Z 186) fe np n (Z 188) (Z 194) (Z 158 71) nc (Z 189) (Z 190) h := by
    rw [z71]
    exact TyP_c T (fun k hk => ⟨(z1 k hk).1, (z1 k hk).2.1, (z1 k hk).2.2.1⟩) (fun p hp => ⟨(z2 p hp).1, by rw [(z2 p hp).2.1]; exact (hpz p hp).1, by rw [(z2 p hp).2.2.1]; exact (hpz p hp).2.1⟩) z194
  have hle : ∀ p, p < np → fe (p + 1) ≤ n := fun p h1 => by
    have := sg_mo S (p := p + 1) np (by omega) (Nat.le_refl _)
    omega
  have gl : ∀ i, i < n → 0 ≤ ((mlI (fv E M) 0 i).length : Int) ∧ 82 + ((mlI (fv E M) 0 i).length : Int) ≤ Z 158 68 := fun i hi => by
    rw [z68]
    have z := ml_mono (m := fv E M) (n - i) i
    rw [show i + (n - i) = n from by omega] at z
    omega
  refine ⟨T2, ?_, fun p hp i i1 i2 => ?_, ?_, fun i hi => ?_, ⟨by rw [z68]; omega, by rw [z70]; exact (hv nv.toNat (by omega)).1, by rw [hB]; exact hfit⟩, ⟨dnp, dn, hnc⟩, ⟨by rw [z71]; exact dnv, fun k hk => ?_, ?_⟩, fun p hp => ?_, fun p hp => ?_, ⟨by rw [z67]; exact hmn.1, by rw [z67, (z2 mn.toNat (by omega)).1]; exact hmn.2⟩, fun p hp => ?_⟩
  · intro k hk
    rw [(z1 k (by omega)).1, (z1 (k + 1) hk).1]
    exact hAJ k hk
  · have := hle p hp
    obtain ⟨w1, w2⟩ := PC i (by omega)
    obtain ⟨o1, o2, o3, o4, o5, o6⟩ := hO i (by omega)
    obtain ⟨a1, a2, a3, a4⟩ := z1 i (by omega)
    have hng : ngo (mlI (fv E M) 0 i) = gsm M i := by rw [ngo_ml (M := fv E M) hO i (by omega), gsm_f]
    have ec : cq M 0 (i + 1) = (p : Int) := by rw [cq_cur]; exact sg_cur S hp i i1 i2
    have e : dM (fv E M) 0 (ngo (mlI (fv E M) 0 i)) i = itq Z (fun p => csM M (p : Int)) (decide (E (gsm M i) = 1)) (decide (E (gsm M i + 1) = 1)) p i := by
      rw [hng, dM_f]
      unfold itq
      rw [a1, a2]
      have rng := sg_op S hp i1 i2
      have hx40 : M 177 i = 0 ∨ M 177 i = 22 ∨ M 177 i = 23 ∨ M 177 i = 26 → M 178 i = (p : Int) := fun w => by
        rcases rng with ⟨r1, r2, r3⟩ | ⟨r1, r2, r3⟩ | ⟨r1, r2, r3⟩
        · exact r2
        · exact r2
        · exact r3 (by omega)
      refine itO_c o1 o4 (fun _ => rfl) (fun _ => rfl) (fun w => ?_) (fun w => ?_) (fun w => ?_) (fun w => ?_) (fun w => ?_)
      · rw [a3]
        unfold tgM
        have := o5 (by
          unfold gNo at w
          by_cases c : M 177 i = 11
          · omega
          · rw [if_neg c] at w
            split at w
            · omega
            · omega)
        rw [if_neg (by omega)]
      · unfold yM yq
        rw [a1, a2]
        by_cases c2 : M 177 i = 2 ∨ M 177 i = 3
        · rw [if_pos c2, if_pos c2]
          show IFm (pv (fun _ => 0) (cq M 0 (i + 1)) M) (M 178 i) = _
          unfold IFm
          show (if M 178 i < M 170 (cq M 0 (i + 1)).toNat then M 178 i else M 178 i + 2) = _
          rw [ec, Int.toNat_natCast, (z2 p hp).1]
        · rw [if_neg c2, if_neg c2]
          by_cases c6 : M 177 i = 6 ∨ M 177 i = 7
          · rw [if_pos c6, if_pos c6]
            show M 168 (M 178 i).toNat = _
            have q1 := o6.2.2 c6
            have q2 := o3 (by omega)
            rw [z194 _ (by omega)]
          · rw [if_neg c6, if_neg c6]
            by_cases c17 : M 177 i = 17
            · rw [if_pos c17, if_pos c17]
              show M 182 (M 178 i).toNat = _
              rcases rng with ⟨r1, r2, r3⟩ | ⟨r1, r2, r3⟩ | ⟨r1, r2, r3⟩
              · omega
              · omega
              · obtain ⟨ml, mx, t1, -⟩ := T.2.2 p hp
                have q := (t1.2.2.2 i r1.1 r1.2).1.2.2.2.2.2.2.2.1 c17
                rw [(z2 _ (by omega)).2.2.2.1]
            · rw [if_neg c17, if_neg c17]
              have ep := hx40
              by_cases c23 : M 177 i = 23
              · rw [if_pos c23, if_pos c23]
                show szM (pv (fun _ => 0) (cq M 0 (i + 1)) M) (M 178 i).toNat = _
                rw [ep (by omega), Int.toNat_natCast, (z2 p hp).2.1]
                rfl
              · rw [if_neg c23, if_neg c23]
                show M 170 (M 178 i).toNat = _
                rw [ep (by omega), Int.toNat_natCast, (z2 p hp).1]
      · rw [hx40 (by omega), Int.toNat_natCast, (z2 p hp).2.2.1]
      · rw [hx40 (by omega), Int.toNat_natCast, (z2 p hp).2.1]
      · rw [hx40 (by omega), Int.toNat_natCast]
    rw [e] at w1 w2
    have e82 : (0 : Int) + ((82 : Nat) : Int) + ((mlI (fv E M) 0 i).length : Int) = Z 187 i := by rw [a4]; omega
    rw [e82] at w1 w2
    refine ⟨_, _, w1, w2, ?_⟩
    rw [← e]
    have el : ((mlI (fv E M) 0 (i + 1)).length : Int) = ((mlI (fv E M) 0 i).length : Int) + ((dM (fv E M) 0 (ngo (mlI (fv E M) 0 i)) i).length : Int) := by
      show ((mlI (fv E M) 0 i ++ dM (fv E M) 0 (ngo (mlI (fv E M) 0 i)) i).length : Int) = _
      rw [List.length_append]
      omega
    unfold plE
    by_cases c : i + 1 < n
    · rw [if_pos c, (z1 (i + 1) c).2.2.2, a4]
      omega
    · rw [if_neg c, z68, a4, show n = i + 1 from by omega]
      omega
  · rw [z67, (z2 mn.toNat (by omega)).2.2.2.1]
    exact hW4.1
  · rw [(z1 i hi).2.2.2]
    have := gl i hi
    omega
  · rw [z71] at hk
    rw [z194 k hk]
    exact d168 k hk
  · rw [z71, z70]
    exact vat_e z194 _ (by omega)
  · rw [(z2 p hp).2.2.2.1, (z2 p hp).1]
    exact ⟨h182 p hp, (hpz p hp).2.2⟩
  · obtain ⟨r1, r2⟩ := hrs p hp
    refine ⟨?_, r2, fun c hc => ?_⟩
    · show (csM M (p : Int)).length ≤ 80
      unfold csM
      rw [rcM_l, Int.toNat_natCast]
      omega
    · rw [(z2 p hp).2.2.2.2 c hc]
      have e := rsB_m (M := M) (p := p) (c := c) (dR p hp).1.1
      by_cases q : rsB M p c = true
      · rw [if_pos q, if_pos (e.1 q)]
      · rw [if_neg q, if_neg (fun w => q (e.2 w))]
  · obtain ⟨q1, q2⟩ := hU p hp
    have := hle p hp
    rw [(z2 p hp).1]
    refine ⟨q1, fun k k1 k2 => ?_⟩
    rw [(z1 k (by omega)).1, (z1 k (by omega)).2.1, (z1 k (by omega)).2.2.1]
    exact q2 k k1 k2
end Lai
