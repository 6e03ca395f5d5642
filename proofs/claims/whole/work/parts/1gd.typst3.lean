/-! THE ORDERS ARE TYPED: all statements -/
section Tsv
variable {m : Mem} {p0 e : Int} {b0 : Nat} {V : Int → Int}
abbrev NoX : Nat → Prop := fun _ => False
abbrev NoU : Int → Prop := fun _ => False
theorem TQ_fg {H dd bb lq : Int} {X : Nat → Prop} {U : Int → Prop} {c c1 : zS} {y2 : yS} (h : TQ m p0 b0 H X U c c1 dd bb lq) (h1 : y2.1 = c1.2.1) (hY : YL m y2) (h2 : c.2.2.1 ≤ y2.2.1) (h3 : c1.2.2.2.2.2 ≤ y2.2.2.2.2) (h4 : y2.2.1 ≤ c.2.2.1 + bb) : TQ m p0 b0 H X U c (c1.1, y2) dd bb lq := by
  obtain ⟨u1, u3, u4, u5, u6, u7, u8, ⟨u11, u12, u13, u14⟩, u15⟩ := h
  refine ⟨u1, u3, u4, u5, u6, by show _ ≤ y2.1.length ∧ (y2.1.length : Int) ≤ _; rw [h1]; exact u7, by show (∀ k, _ → _ → y2.1.getD k 0 = _) ∧ _; rw [h1]; exact u8, ⟨hY, h4, h2, by show _ ≤ y2.2.2.2.2; omega⟩, fun k k1 k2 => ?_⟩
  obtain ⟨w1, w2, x1, x2, x3⟩ := u15 k k1 k2
  refine ⟨OpT_ml w1 h3, w2, fun r => (x1 r).imp id (fun z => ?_), fun r => (x2 r).imp id (fun z => ?_), x3⟩
  · show Hd b0 c1.1 y2 _
    unfold Hd
    rw [h1]
    exact z
  · show Sd m b0 c1.1 y2 _
    unfold Sd
    rw [h1]
    exact z
theorem NF_stS {t : xT} {H l n : Int} {c : zS} (h : NF (stS m t H l n c).1) : NF c.1 := stS_inv (m := m) (Q := fun s1 => NF s1 → NF c.1) NF_k t H l n c (fun g => g) h
/-- the orders of a construct, at most -/
def ob (nt : Nat) (t : xT) (p q : Int) : Int := if nt = 8 then q - p - 2 else if nt = 11 then q - p - 3 * nW t else q - p
/-- the claim of a construct -/
def QQc (m : Mem) (p0 : Int) (b0 : Nat) (t : xT) (nt : Nat) (p q H l n : Int) (c : zS) : Prop := (nt ≠ 11 → nt ≠ 12 → TQ m p0 b0 H NoX NoU c (stS m t H l n c) 0 (ob nt t p q) (bg nt t p q)) ∧ (nt = 12 → TQ m p0 b0 H (fun k => k = l.toNat) NoU c (stS m t H l n c) 0 (ob nt t p q) (bg nt t p q) ∧ Sd m b0 (stS m t H l n c).1 (stS m t H l n c).2 l) ∧ (nt = 11 → TQ m p0 b0 H (fun k => n ≤ (k : Int) ∧ (k : Int) < n + nW t) (fun x => x = l) c (stS m t H l n c) 0 (ob nt t p q) (bg nt t p q) ∧ ∀ k : Nat, n ≤ (k : Int) → (k : Int) < n + nW t → Sd m b0 (stS m t H l n c).1 (stS m t H l n c).2 (k : Int))
theorem em_pre {o a l : Int} {s : xSt} (h3 : s.1.length < 3000) : s.1.length ≤ (em o a l s).1.length ∧ ∀ k, k < s.1.length → (em o a l s).1.getD k (0, 0, 0) = s.1.getD k (0, 0, 0) := by
  have q := fun k => getD_ap (l := s.1) (x := (o, a, l)) (k := k) h3
  have hl : (em o a l s).1.length = s.1.length + 1 := (q 0).1
  exact ⟨by omega, fun k hk => (q k).2.1 hk⟩
theorem noX {X : Nat → Prop} {U : Int → Prop} {H dd bb lq : Int} {c c1 : zS} (h : TQ m p0 b0 H X U c c1 dd bb lq) (hx : ∀ k, k < c.2.1.length → ¬ X k) : TQ m p0 b0 H NoX U c c1 dd bb lq := TQ_X h (fun k hk => ⟨fun z => hx k hk z, fun z => z.elim⟩)
theorem wdU {U : Int → Prop} {X : Nat → Prop} {H dd bb lq : Int} {c c1 : zS} (h : TQ m p0 b0 H X NoU c c1 dd bb lq) : TQ m p0 b0 H X U c c1 dd bb lq := TQ_U h (fun x z => z.elim)
theorem TyQ (C : XC0 m e) (hp0 : m 68 4 = p0) : ∀ (k : Nat) (t : xT), tsz t < k → ∀ (nt : Nat) (dep p q : Int), 8 ≤ nt → nt ≤ 12 → P (kd m) V t nt dep p q → 0 ≤ p → q ≤ e → ∀ (H l n : Int) (c : zS), HI m c.1 → c.1.2.1 = 0 → YL m c.2 → (c.1.1.length : Int) + ob nt t p q ≤ 2990 → (c.2.1.length : Int) + bg nt t p q < 2990 → c.2.2.1 + ob nt t p q ≤ 1500 → b0 ≤ c.1.1.length → (nt = 12 → (0 ≤ l ∧ l < (c.2.1.length : Int)) ∧ c.2.1.getD l.toNat 0 = -1) → (nt = 11 → (0 ≤ n ∧ n + nW t ≤ (c.2.1.length : Int)) ∧ ∀ k : Nat, n ≤ (k : Int) → (k : Int) < n + nW t → c.2.1.getD k 0 = -1) → NF (stS m t H l n c).1 → QQc m p0 b0 t nt p q H l n c := by
  intro k
  induction k with
  | zero => intro t ht; exact absurd ht (Nat.not_lt_zero _)
  | succ k ih =>
    intro t ht nt dep p q hn8 hn12 h hp hq H l n c hI hz hY hlen hlab hloc hb0 h12 h11 nf
    have hc : nt = 8 ∨ nt = 9 ∨ nt = 10 ∨ nt = 11 ∨ nt = 12 := by omega
    have blk : ∀ (a : xT) (na : Nat) (d1 p1 r1 H1 z : Int) (c : zS), tsz a < k → (na = 8 ∧ z = 2 ∨ na = 9 ∧ z = 0 ∨ na = 10 ∧ z = 0) → P (kd m) V a na d1 p1 r1 → 0 ≤ p1 → r1 ≤ e → HI m c.1 → c.1.2.1 = 0 → YL m c.2 → (c.1.1.length : Int) + (r1 - p1 - z) ≤ 2990 → (c.2.1.length : Int) + 2 * (r1 - p1) < 2990 → c.2.2.1 + (r1 - p1 - z) ≤ 1500 → b0 ≤ c.1.1.length → NF (stS m a H1 0 0 c).1 → TQ m p0 b0 H1 NoX NoU c (stS m a H1 0 0 c) 0 (r1 - p1 - z) (2 * (r1 - p1)) := fun a na d1 p1 r1 H1 z c ha hna hP g1 g2 g3 g4 g5 g6 g7 g8 g9 g10 => by
      have eb : bg na a p1 r1 = 2 * (r1 - p1) := by
        unfold bg
        rw [if_neg (by omega)]
      have eo : ob na a p1 r1 = r1 - p1 - z := by
        unfold ob
        rcases hna with ⟨rfl, rfl⟩ | ⟨rfl, rfl⟩ | ⟨rfl, rfl⟩
        · rfl
        · rw [if_neg (by decide), if_neg (by decide)]; omega
        · rw [if_neg (by decide), if_neg (by decide)]; omega
      have z := (ih a ha na d1 p1 r1 (by omega) (by omega) hP g1 g2 H1 0 0 c g3 g4 g5 (by rw [eo]; exact g6) (by rw [eb]; exact g7) (by rw [eo]; exact g8) g9 (fun w => by omega) (fun w => by omega) g10).1 (by omega) (by omega)
      rw [eb, eo] at z
      exact z
    have opN : ∀ (o a : Int) (U : Int → Prop) (c : zS), ¬ isR o → ¬ isJ o → LPs m b0 (em o a (-1) c.1) c.2 H U o (-1) := fun o a U c g1 g2 => ⟨fun w => absurd w g1, fun w => absurd w g2, fun _ _ => rfl⟩
    have opR : ∀ (o a : Int) (U : Int → Prop) (c : zS), isR o → ¬ isJ o → LPs m b0 (em o a H c.1) c.2 H U o H := fun o a U c g1 g2 => ⟨fun _ => Or.inl rfl, fun w => absurd w g2, fun w => absurd g1 w⟩
    rcases hc with rfl | rfl | rfl | rfl | rfl
    · refine ⟨fun _ _ => ?_, fun z => absurd z (by decide), fun z => absurd z (by decide)⟩
      obtain ⟨i, a, b, rfl, ho, h30, hv, r, h1, h3, hq2⟩ := inv_8 h
      rw [tsz_nd] at ht
      have l1 := P_le a h1
      have hlab : (c.2.1.length : Int) + 2 * (q - p) < 2990 := hlab
      have hlen : (c.1.1.length : Int) + (q - p - 2) ≤ 2990 := hlen
      have hloc : c.2.2.1 + (q - p - 2) ≤ 1500 := hloc
      rw [y_20] at nf ⊢
      have B := blk a 9 _ _ _ H 0 c (by omega) (by omega) h1 (by omega) (by omega) hI hz hY (by omega) (by omega) (by omega) hb0 nf
      have n1 := B.cn
      have n2 := B.cn2
      have n3 := B.yl
      generalize stS m a H 0 0 c = c1 at *
      have fg := fgN_n (m := m) (c1.2.2.1 - c.2.2.1).toNat c1.2
      have hc0 := hY.1
      have fy := YL_fg (m := m) (c1.2.2.1 - c.2.2.1).toNat c1.2 n3 (by omega)
      have n4 : (fgN m (c1.2.2.1 - c.2.2.1).toNat c1.2).2.1 = c.2.2.1 := by rw [fg.2]; omega
      show TQ m p0 b0 H NoX NoU c _ 0 (q - p - 2) (2 * (q - p))
      exact TQ_b (TQ_fg B fg.1 fy.1 (by omega) (by rw [fy.2]; exact Int.le_refl _) (by omega)) rfl (by omega) (by omega)
    · refine ⟨fun _ _ => ?_, fun z => absurd z (by decide), fun z => absurd z (by decide)⟩
      have hlab : (c.2.1.length : Int) + 2 * (q - p) < 2990 := hlab
      have hlen : (c.1.1.length : Int) + (q - p) ≤ 2990 := hlen
      have hloc : c.2.2.1 + (q - p) ≤ 1500 := hloc
      show TQ m p0 b0 H NoX NoU c _ 0 (q - p) (2 * (q - p))
      rcases inv_9 h with ⟨i, a, b, rfl, ho, r, h1, h3⟩ | ⟨i, a, b, rfl, hpq, ho⟩
      · rw [tsz_nd] at ht
        have l1 := P_le a h1
        have l2 := P_le b h3
        rw [y_21] at nf ⊢
        have A := blk a 10 _ _ _ H 0 c (by omega) (by omega) h1 (by omega) (by omega) hI hz hY (by omega) (by omega) (by omega) hb0 (NF_stS nf)
        have a1 := A.len
        have a2 := A.lb
        have a3 := A.cn
        have a4 := A.dl
        have a5 := A.le
        have B := blk b 9 _ _ _ H 0 (stS m a H 0 0 c) (by omega) (by omega) h3 (by omega) (by omega) A.hi (by omega) A.yl (by omega) (by omega) (by omega) (by omega) nf
        exact noX (TQ_b (TQ_tr A B) rfl (by omega) (by omega)) (fun k _ z => z.elim id id)
      · rw [y_22]
        exact TQ_b (TQ_rf hI hY) rfl (by omega) (by omega)
    · refine ⟨fun _ _ => ?_, fun z => absurd z (by decide), fun z => absurd z (by decide)⟩
      have hlab : (c.2.1.length : Int) + 2 * (q - p) < 2990 := hlab
      have hlen : (c.1.1.length : Int) + (q - p) ≤ 2990 := hlen
      have hloc : c.2.2.1 + (q - p) ≤ 1500 := hloc
      show TQ m p0 b0 H NoX NoU c _ 0 (q - p) (2 * (q - p))
      have hl3 : c.2.1.length < 2999 := by
        have := P_le t h
        omega
      have en := nln_1 (y := c.2) (by omega)
      have en2 := nln_2 hl3
      have hy1 := nlb_1 (y := c.2) (by omega)
      have hy2 := nlb_2 hl3
      rcases inv_10 h with ⟨i, a, b, rfl, h1, h3, h5, h6, r, h8, h9, h10⟩ | ⟨i, a, b, rfl, h1, h3, r, h8, h9, h10⟩ | ⟨i, a, b, rfl, h1, h3, h5, r, h8, h9, h10⟩ | ⟨i, a, b, rfl, h1, h3, h5, h6, r, u, h8, h9, h10, h11, h12, h13⟩ | ⟨i, a, b, rfl, h1, r, h8, h9, h10⟩ | ⟨i, a, b, rfl, h1, r, h8, h9⟩ | ⟨i, a, b, rfl, h1, r, h8, h9⟩ | ⟨i, a, b, rfl, h1, r, h8, h9, h10⟩ | ⟨i, a, b, rfl, h1, h3, h5, h6, h7⟩ | ⟨i, a, b, rfl, h1, r, h8, h9, h10⟩ | ⟨i, a, b, rfl, h1, r, h8, h9, h10⟩
      · -- var
        rw [tsz_nd] at ht
        have l1 := P_le a h8
        subst h6
        rw [y_23] at nf ⊢
        have t1 := tl_n0 C (by omega) (by omega) nf
        rw [t1] at nf ⊢
        have nf1 : NF (xE (sww H c.2 m) a c.1) := nf
        obtain ⟨Y1, Y2, Y3, Y4, Y5⟩ := YL_mk (m := m) (i := i + 1) hY (by omega)
        have T1 := TQ_y (p0 := p0) (b0 := b0) (H := H) (U := NoU) (c := c) hI Y3 Y1 (by omega) Y4 (b := 1) (by omega) (by omega)
        obtain ⟨A1, A2⟩ := QX (p0 := p0) (V := V) C hY (by omega) (by omega) h8 (by omega) (by omega) hI (by omega) (by omega) nf1
        have dA : dl 0 a = 1 := rfl
        rw [dA] at A1 A2
        have T2 := TQ_x (b0 := b0) (U := NoU) (y2 := ymk m (i + 1) c.2) A2 Y4 Y1 (by omega)
        have t2 := T2.dl
        have t3 := A2.1.2
        have hz1 : (xE (sww H c.2 m) a c.1).2.1 = 1 := by
          have z : (xE (sww H c.2 m) a c.1).2.1 = c.1.2.1 + 1 := t2
          omega
        have T3 := TQ_em (p0 := p0) (b0 := b0) (H := H) (U := NoU) (c := (xE (sww H c.2 m) a c.1, ymk m (i + 1) c.2)) (o := 3) (a := c.2.2.1) (l := -1) T2.hi Y1 (by show (xE (sww H c.2 m) a c.1).1.length < 3000; omega) (by rw [hz1]; omega) (by omega) ⟨by omega, by rw [hz1]; exact Int.le_refl 1, by omega, fun _ => ⟨hY.1.1, Y5⟩, by omega, by omega, by omega, by omega, by omega, by omega, by omega, by omega, by omega⟩ (opN 3 _ _ _ (by omega) (by omega))
        have e3 : psh 3 = -1 := rfl
        rw [e3] at T3
        exact noX (TQ_b (TQ_tr (TQ_tr T1 T2) T3) (by omega) (by omega) (by omega)) (fun k _ z => z.elim (fun w => w.elim id id) id)
      · -- call
        rw [tsz_nd] at ht
        have l1 := P_le a h8
        subst h3
        rw [y_24] at nf ⊢
        have nf1 : NF (cl m i (nA a) (xE (sww H c.2 m) a (us m i 4 c.1))) := nf
        have nf2 := cl_n0 C hp (by omega) nf1
        obtain ⟨u1, u2⟩ := us_n0 C hp (by omega) (NF_xE nf2.2)
        rw [u2] at nf2 ⊢
        obtain ⟨A1, A2⟩ := QX (p0 := p0) (V := V) C hY (by omega) (by omega) h8 (by omega) (by omega) hI (by omega) (by omega) nf2.2
        have dA : dl 6 a = nA a := rfl
        rw [dA] at A1 A2
        have a1 := A2.1.2
        have a2 := A2.2.2.1
        have hv := (C.1 (idT m i)).2.2.2 u1
        have E := TX_cl (m := sww H c.2 m) (p0 := p0) (ml := c.2.2.2.2.2) (H := H) (i := i) A2.2.2.2.1 (by omega) (by omega) ⟨A1.1, by omega⟩ nf2.1 hv
        have ecl : cl (sww H c.2 m) i (nA a) (xE (sww H c.2 m) a c.1) = cl m i (nA a) (xE (sww H c.2 m) a c.1) := rfl
        rw [ecl] at E
        have T2 := TQ_x (b0 := b0) (U := NoU) (y2 := c.2) (TX_tr A2 E) (Int.le_refl _) hY (by omega)
        have t2 := T2.dl
        have t3 := T2.len
        generalize em 17 (nmI m (idT m i)) H (cl m i (nA a) (xE (sww H c.2 m) a c.1)) = s3 at *
        have hz1 : s3.2.1 = 1 := by
          have z : s3.2.1 = c.1.2.1 + (nA a + (1 - nA a)) := t2
          omega
        have t3' : (s3.1.length : Int) ≤ (c.1.1.length : Int) + (r - (i + 1) + 1) := t3
        have T3 := TQ_em (p0 := p0) (b0 := b0) (H := H) (U := NoU) (c := (s3, c.2)) (o := 18) (a := 0) (l := -1) T2.hi hY (by show s3.1.length < 3000; omega) (by rw [hz1]; omega) (by omega) ⟨by omega, by rw [hz1]; exact Int.le_refl 1, by omega, by omega, by omega, by omega, by omega, by omega, by omega, by omega, by omega, by omega, fun _ => rfl⟩ (opN 18 _ _ _ (by omega) (by omega))
        have e3 : psh 18 = -1 := rfl
        rw [e3] at T3
        exact noX (TQ_b (TQ_tr T2 T3) (by omega) (by omega) (by omega)) (fun k _ z => z.elim id id)
      · -- x = e
        rw [tsz_nd] at ht
        have l1 := P_le a h8
        subst h5
        rw [y_25] at nf ⊢
        by_cases hl : lI (sww H c.2 m) (idT m i) = -1
        · rw [if_pos hl] at nf ⊢
          have nf1 : NF (us m i 1 (xE (sww H c.2 m) a c.1)) := nf
          obtain ⟨u1, u2⟩ := us_n0 C hp (by omega) nf1
          rw [u2] at nf1 ⊢
          obtain ⟨A1, A2⟩ := QX (p0 := p0) (V := V) C hY (by omega) (by omega) h8 (by omega) (by omega) hI (by omega) (by omega) nf1
          have dA : dl 0 a = 1 := rfl
          rw [dA] at A1 A2
          have T2 := TQ_x (b0 := b0) (U := NoU) (y2 := c.2) A2 (Int.le_refl _) hY (by omega)
          have t2 := T2.dl
          have t3 := A2.1.2
          have hz1 : (xE (sww H c.2 m) a c.1).2.1 = 1 := by
            have z : (xE (sww H c.2 m) a c.1).2.1 = c.1.2.1 + 1 := t2
            omega
          have hv := C.1 (idT m i)
          have T3 := TQ_em (p0 := p0) (b0 := b0) (H := H) (U := NoU) (c := (xE (sww H c.2 m) a c.1, c.2)) (o := 5) (a := nmI m (idT m i)) (l := -1) T2.hi hY (by show (xE (sww H c.2 m) a c.1).1.length < 3000; omega) (by rw [hz1]; omega) (by omega) ⟨by omega, by rw [hz1]; exact Int.le_refl 1, by omega, by omega, fun _ => ⟨hv.1 (Or.inl u1), hv.2.1 u1⟩, by omega, by omega, by omega, by omega, by omega, by omega, by omega, by omega⟩ (opN 5 _ _ _ (by omega) (by omega))
          have e3 : psh 5 = -1 := rfl
          rw [e3] at T3
          exact noX (TQ_b (TQ_tr T2 T3) (by omega) (by omega) (by omega)) (fun k _ z => z.elim id id)
        · rw [if_neg hl] at nf ⊢
          have nf1 : NF (xE (sww H c.2 m) a c.1) := nf
          obtain ⟨A1, A2⟩ := QX (p0 := p0) (V := V) C hY (by omega) (by omega) h8 (by omega) (by omega) hI (by omega) (by omega) nf1
          have dA : dl 0 a = 1 := rfl
          rw [dA] at A1 A2
          have T2 := TQ_x (b0 := b0) (U := NoU) (y2 := c.2) A2 (Int.le_refl _) hY (by omega)
          have t2 := T2.dl
          have t3 := A2.1.2
          have hz1 : (xE (sww H c.2 m) a c.1).2.1 = 1 := by
            have z : (xE (sww H c.2 m) a c.1).2.1 = c.1.2.1 + 1 := t2
            omega
          have hv := (XCw (H := H) C hY).2.2.2.2 (idT m i)
          have T3 := TQ_em (p0 := p0) (b0 := b0) (H := H) (U := NoU) (c := (xE (sww H c.2 m) a c.1, c.2)) (o := 3) (a := lI (sww H c.2 m) (idT m i)) (l := -1) T2.hi hY (by show (xE (sww H c.2 m) a c.1).1.length < 3000; omega) (by rw [hz1]; omega) (by omega) ⟨by omega, by rw [hz1]; exact Int.le_refl 1, by omega, fun _ => by rcases hv with z | z; exact absurd z hl; exact z, by omega, by omega, by omega, by omega, by omega, by omega, by omega, by omega, by omega⟩ (opN 3 _ _ _ (by omega) (by omega))
          have e3 : psh 3 = -1 := rfl
          rw [e3] at T3
          exact noX (TQ_b (TQ_tr T2 T3) (by omega) (by omega) (by omega)) (fun k _ z => z.elim id id)
      · -- x[e] = e
        rw [tsz_nd] at ht
        have l1 := P_le a h8
        have l2 := P_le b h11
        subst h6
        rw [y_26] at nf ⊢
        have nf1 : NF (xE (sww H c.2 m) b (xE (sww H c.2 m) a (us m i 2 c.1))) := nf
        obtain ⟨u1, u2⟩ := us_n0 C hp (by omega) (NF_xE (NF_xE nf1))
        rw [u2] at nf1 ⊢
        obtain ⟨A1, A2⟩ := QX (p0 := p0) (V := V) C hY (by omega) (by omega) h8 (by omega) (by omega) hI (by omega) (by omega) (NF_xE nf1)
        have dA : dl 0 a = 1 := rfl
        rw [dA] at A1 A2
        have a1 := A2.1.2
        have a2 := A2.2.2.1
        have hI2 : HI m (xE (sww H c.2 m) a c.1) := by
          have z := A2.2.2.2.1
          unfold HI at z
          rw [hgt_w] at z
          exact z
        obtain ⟨B1, B2⟩ := QX (p0 := p0) (V := V) C hY (by omega) (by omega) h11 (by omega) (by omega) hI2 (by omega) (by omega) nf1
        have dB : dl 0 b = 1 := rfl
        rw [dB] at B1 B2
        have T2 := TQ_x (b0 := b0) (U := NoU) (y2 := c.2) (TX_tr A2 B2) (Int.le_refl _) hY (by omega)
        have t2 := T2.dl
        have t3 := (TX_tr A2 B2).1.2
        have hz1 : (xE (sww H c.2 m) b (xE (sww H c.2 m) a c.1)).2.1 = 2 := by
          have z : (xE (sww H c.2 m) b (xE (sww H c.2 m) a c.1)).2.1 = c.1.2.1 + (1 + 1) := t2
          omega
        have hv := C.1 (idT m i)
        have T3 := TQ_em (p0 := p0) (b0 := b0) (H := H) (U := NoU) (c := (xE (sww H c.2 m) b (xE (sww H c.2 m) a c.1), c.2)) (o := 7) (a := nmI m (idT m i)) (l := H) T2.hi hY (by show (xE (sww H c.2 m) b (xE (sww H c.2 m) a c.1)).1.length < 3000; omega) (by rw [hz1]; omega) (by omega) ⟨by omega, by rw [hz1]; exact Int.le_refl 2, by omega, by omega, by omega, fun _ => hv.1 (Or.inr u1), by omega, by omega, by omega, by omega, by omega, by omega, by omega⟩ (opR 7 _ _ _ (by omega) (by omega))
        have e3 : psh 7 = -2 := rfl
        rw [e3] at T3
        exact noX (TQ_b (TQ_tr T2 T3) (by omega) (by omega) (by omega)) (fun k _ z => z.elim id id)
      · -- if
        rw [tsz_nd] at ht
        have l1 := P_lt0 h8
        have l2 := P_le b h9
        rw [y_27] at nf ⊢
        have nf : NF (stS m b H 0 0 (em 16 0 (nln c.2) (xE (sww H (nlb c.2) m) a c.1), nlb c.2)).1 := nf
        have nf1 : NF (xE (sww H (nlb c.2) m) a c.1) := NF_stS nf
        have T1 := TQ_nl (p0 := p0) (b0 := b0) (H := H) (U := fun x => x = nln c.2) (r := 1) hI hY
        rw [← hy1] at T1
        have Y1 : YL m (nlb c.2) := T1.yl
        have y1l : (nlb c.2).1.length = c.2.1.length + 1 := by rw [hy1, List.length_append, List.length_replicate]
        have y1u : (nlb c.2).1.getD (nln c.2).toNat 0 = -1 := by rw [hy1, en]; exact gD_nl (by omega) (by omega)
        have y1c : (nlb c.2).2.1 = c.2.2.1 := by rw [hy1]
        obtain ⟨A1, A2⟩ := QX (p0 := p0) (V := V) C Y1 (by omega) (by omega) h8 (by omega) (by omega) hI (by omega) (by omega) nf1
        have dA : dl 0 a = 1 := rfl
        rw [dA] at A1 A2
        have T2 := TQ_x (b0 := b0) (U := fun x => x = nln c.2) (y2 := nlb c.2) A2 (Int.le_refl _) Y1 (by omega)
        have t3 := A2.1.2
        have hz1 : (xE (sww H (nlb c.2) m) a c.1).2.1 = 1 := by
          have z := A2.2.2.1
          omega
        have T3 := TQ_em (p0 := p0) (b0 := b0) (H := H) (U := fun x => x = nln c.2) (c := (xE (sww H (nlb c.2) m) a c.1, nlb c.2)) (o := 16) (a := 0) (l := nln c.2) T2.hi Y1 (by show (xE (sww H (nlb c.2) m) a c.1).1.length < 3000; omega) (by rw [hz1]; omega) (by omega) ⟨by omega, by rw [hz1]; exact Int.le_refl 1, by omega, by omega, by omega, by omega, by omega, by omega, by omega, by omega, by omega, fun _ => hz1, fun _ => rfl⟩ ⟨by omega, fun _ => Or.inl rfl, by omega⟩
        have e3 : psh 16 = -1 := rfl
        rw [e3] at T3
        have t4 := T3.hi
        have t5 : (em 16 0 (nln c.2) (xE (sww H (nlb c.2) m) a c.1)).2.1 = (xE (sww H (nlb c.2) m) a c.1).2.1 + -1 := T3.dl
        have t6 : ((em 16 0 (nln c.2) (xE (sww H (nlb c.2) m) a c.1)).1.length : Int) ≤ ((xE (sww H (nlb c.2) m) a c.1).1.length : Int) + 1 := T3.len
        have t7 : (xE (sww H (nlb c.2) m) a c.1).1.length ≤ (em 16 0 (nln c.2) (xE (sww H (nlb c.2) m) a c.1)).1.length := T3.le
        have t8 := A2.1.1
        generalize em 16 0 (nln c.2) (xE (sww H (nlb c.2) m) a c.1) = s2 at *
        have T4 := blk b 8 _ _ _ H 2 (s2, nlb c.2) (by omega) (by omega) h9 (by omega) (by omega) t4 (by show s2.2.1 = 0; omega) Y1 (by show (s2.1.length : Int) + _ ≤ _; omega) (by show ((nlb c.2).1.length : Int) + _ < _; omega) (by show (nlb c.2).2.1 + _ ≤ _; omega) (by show b0 ≤ s2.1.length; omega) nf
        generalize stS m b H 0 0 (s2, nlb c.2) = c4 at *
        have q1 : s2.1.length ≤ c4.1.1.length := T4.le
        have q2 : c4.1.2.1 = s2.2.1 + 0 := T4.dl
        have q3 : (nlb c.2).1.length ≤ c4.2.1.length := T4.lle
        have q4 : c4.2.1.getD (nln c.2).toNat 0 = -1 := by rw [T4.kp (nln c.2).toNat (by show _ < (nlb c.2).1.length; omega) (fun z => z)]; exact y1u
        have T5 := TQ_sl (p0 := p0) (b0 := b0) (H := H) (U := fun x => x = nln c.2) (c := c4) (l := nln c.2) T4.hi T4.yl (by omega) (by omega) q4
        have S5 := Sd_sl (m := m) (b0 := b0) (c := c4) (l := nln c.2) T4.hi (by omega) (by omega) (by omega) (by omega)
        refine TQ_U (noX (TQ_b (TQ_tr (TQ_tr (TQ_tr (TQ_tr T1 T2) T3) (wdU T4)) T5) (by omega) (by omega) (by omega)) (fun k hk z => ?_)) (fun x hx => Or.inr (by rw [hx]; exact S5))
        rcases z with (((z | z) | z) | z) | z
        · exact z
        · exact z
        · exact z
        · exact z
        · omega
      · -- if else
        rw [tsz_nd] at ht
        have l1 := P_lt0 h8
        have l2 := P_le b h9
        rw [y_28] at nf ⊢
        have nf : NF (stS m b H (nln c.2) 0 (em 16 0 (nln c.2) (xE (sww H (nlb c.2) m) a c.1), nlb c.2)).1 := nf
        have nf1 : NF (xE (sww H (nlb c.2) m) a c.1) := NF_stS nf
        have T1 := TQ_nl (p0 := p0) (b0 := b0) (H := H) (U := fun x => x = nln c.2) (r := 1) hI hY
        rw [← hy1] at T1
        have Y1 : YL m (nlb c.2) := T1.yl
        have y1l : (nlb c.2).1.length = c.2.1.length + 1 := by rw [hy1, List.length_append, List.length_replicate]
        have y1u : (nlb c.2).1.getD (nln c.2).toNat 0 = -1 := by rw [hy1, en]; exact gD_nl (by omega) (by omega)
        have y1c : (nlb c.2).2.1 = c.2.2.1 := by rw [hy1]
        obtain ⟨A1, A2⟩ := QX (p0 := p0) (V := V) C Y1 (by omega) (by omega) h8 (by omega) (by omega) hI (by omega) (by omega) nf1
        have dA : dl 0 a = 1 := rfl
        rw [dA] at A1 A2
        have T2 := TQ_x (b0 := b0) (U := fun x => x = nln c.2) (y2 := nlb c.2) A2 (Int.le_refl _) Y1 (by omega)
        have t3 := A2.1.2
        have hz1 : (xE (sww H (nlb c.2) m) a c.1).2.1 = 1 := by
          have z := A2.2.2.1
          omega
        have T3 := TQ_em (p0 := p0) (b0 := b0) (H := H) (U := fun x => x = nln c.2) (c := (xE (sww H (nlb c.2) m) a c.1, nlb c.2)) (o := 16) (a := 0) (l := nln c.2) T2.hi Y1 (by show (xE (sww H (nlb c.2) m) a c.1).1.length < 3000; omega) (by rw [hz1]; omega) (by omega) ⟨by omega, by rw [hz1]; exact Int.le_refl 1, by omega, by omega, by omega, by omega, by omega, by omega, by omega, by omega, by omega, fun _ => hz1, fun _ => rfl⟩ ⟨by omega, fun _ => Or.inl rfl, by omega⟩
        have e3 : psh 16 = -1 := rfl
        rw [e3] at T3
        have t4 := T3.hi
        have t5 : (em 16 0 (nln c.2) (xE (sww H (nlb c.2) m) a c.1)).2.1 = (xE (sww H (nlb c.2) m) a c.1).2.1 + -1 := T3.dl
        have t6 : ((em 16 0 (nln c.2) (xE (sww H (nlb c.2) m) a c.1)).1.length : Int) ≤ ((xE (sww H (nlb c.2) m) a c.1).1.length : Int) + 1 := T3.len
        have t7 : (xE (sww H (nlb c.2) m) a c.1).1.length ≤ (em 16 0 (nln c.2) (xE (sww H (nlb c.2) m) a c.1)).1.length := T3.le
        have t8 := A2.1.1
        generalize em 16 0 (nln c.2) (xE (sww H (nlb c.2) m) a c.1) = s2 at *
        have eb : bg 12 b r q = 2 * (q - r) := rfl
        have o12 : ob 12 b r q = q - r := rfl
        have T4 := (ih b (by omega) 12 _ _ _ (by omega) (by omega) h9 (by omega) (by omega) H (nln c.2) 0 (s2, nlb c.2) t4 (by show s2.2.1 = 0; omega) Y1 (by rw [o12]; show (s2.1.length : Int) + _ ≤ _; omega) (by rw [eb]; show ((nlb c.2).1.length : Int) + _ < _; omega) (by rw [o12]; show (nlb c.2).2.1 + _ ≤ _; omega) (by show b0 ≤ s2.1.length; omega) (fun _ => ⟨by show _ ∧ _ < ((nlb c.2).1.length : Int); omega, y1u⟩) (fun w => absurd w (by decide)) nf).2.1 rfl
        obtain ⟨T4, S4⟩ := T4
        rw [eb, o12] at T4
        generalize stS m b H (nln c.2) 0 (s2, nlb c.2) = c4 at *
        refine TQ_U (noX (TQ_b (TQ_tr (TQ_tr (TQ_tr T1 T2) T3) (wdU T4)) (by omega) (by omega) (by omega)) (fun k hk z => ?_)) (fun x hx => Or.inr (by rw [hx]; exact S4))
        rcases z with ((z | z) | z) | z
        · exact z
        · exact z
        · exact z
        · omega
      · -- while
        rw [tsz_nd] at ht
        have l1 := P_lt0 h8
        have l2 := P_le b h9
        rw [y_29] at nf ⊢
        have T1 := TQ_nl (p0 := p0) (b0 := b0) (H := H) (U := fun x => x = nln (nlb c.2)) (r := 2) hI hY
        rw [← hy2] at T1
        have y2l : (nlb (nlb c.2)).1.length = c.2.1.length + 2 := by rw [hy2, List.length_append, List.length_replicate]
        have y2a : (nlb (nlb c.2)).1.getD (nln c.2).toNat 0 = -1 := by rw [hy2, en]; exact gD_nl (by omega) (by omega)
        have y2b : (nlb (nlb c.2)).1.getD (nln (nlb c.2)).toNat 0 = -1 := by rw [hy2, en2]; exact gD_nl (by omega) (by omega)
        have y2c : (nlb (nlb c.2)).2.1 = c.2.2.1 := by rw [hy2]
        have T2 := TQ_sl (p0 := p0) (b0 := b0) (H := H) (U := fun x => x = nln (nlb c.2)) (c := (c.1, nlb (nlb c.2))) (l := nln c.2) hI T1.yl (by omega) (by show nln c.2 < ((nlb (nlb c.2)).1.length : Int); omega) y2a
        have S2 := Sd_sl (m := m) (b0 := b0) (c := (c.1, nlb (nlb c.2))) (l := nln c.2) hI (by omega) (by show nln c.2 < ((nlb (nlb c.2)).1.length : Int); omega) hb0 hz
        have y3l := slb_l (y := nlb (nlb c.2)) (l := nln c.2) (v := (c.1.1.length : Int))
        have y3b : (slb (nln c.2) (c.1.1.length : Int) (nlb (nlb c.2))).1.getD (nln (nlb c.2)).toNat 0 = -1 := by
          rw [slb_g (by omega) (by omega), if_neg (by omega)]
          exact y2b
        have y3c : (slb (nln c.2) (c.1.1.length : Int) (nlb (nlb c.2))).2.1 ≤ c.2.2.1 + 0 := by
          have z : (slb (nln c.2) (c.1.1.length : Int) (nlb (nlb c.2))).2.1 ≤ (nlb (nlb c.2)).2.1 + 0 := T2.cn
          omega
        have Y3 : YL m (slb (nln c.2) (c.1.1.length : Int) (nlb (nlb c.2))) := T2.yl
        generalize slb (nln c.2) (c.1.1.length : Int) (nlb (nlb c.2)) = y3 at *
        have nf : NF (stS m b H 0 0 (em 16 0 (nln (nlb c.2)) (xE (sww H y3 m) a c.1), y3)).1 := nf
        have nf1 : NF (xE (sww H y3 m) a c.1) := NF_stS nf
        obtain ⟨A1, A2⟩ := QX (p0 := p0) (V := V) C Y3 (by omega) (by omega) h8 (by omega) (by omega) hI (by omega) (by omega) nf1
        have dA : dl 0 a = 1 := rfl
        rw [dA] at A1 A2
        have T3 := TQ_x (b0 := b0) (U := fun x => x = nln (nlb c.2)) (y2 := y3) A2 (Int.le_refl _) Y3 (by omega)
        have t3 := A2.1.2
        have hz1 : (xE (sww H y3 m) a c.1).2.1 = 1 := by
          have z := A2.2.2.1
          omega
        have T4 := TQ_em (p0 := p0) (b0 := b0) (H := H) (U := fun x => x = nln (nlb c.2)) (c := (xE (sww H y3 m) a c.1, y3)) (o := 16) (a := 0) (l := nln (nlb c.2)) T3.hi Y3 (by show (xE (sww H y3 m) a c.1).1.length < 3000; omega) (by rw [hz1]; omega) (by omega) ⟨by omega, by rw [hz1]; exact Int.le_refl 1, by omega, by omega, by omega, by omega, by omega, by omega, by omega, by omega, by omega, fun _ => hz1, fun _ => rfl⟩ ⟨by omega, fun _ => Or.inl rfl, by omega⟩
        have e3 : psh 16 = -1 := rfl
        rw [e3] at T4
        have t4 := T4.hi
        have t5 : (em 16 0 (nln (nlb c.2)) (xE (sww H y3 m) a c.1)).2.1 = (xE (sww H y3 m) a c.1).2.1 + -1 := T4.dl
        have t6 : ((em 16 0 (nln (nlb c.2)) (xE (sww H y3 m) a c.1)).1.length : Int) ≤ ((xE (sww H y3 m) a c.1).1.length : Int) + 1 := T4.len
        have t7 : (xE (sww H y3 m) a c.1).1.length ≤ (em 16 0 (nln (nlb c.2)) (xE (sww H y3 m) a c.1)).1.length := T4.le
        have t8 := A2.1.1
        generalize em 16 0 (nln (nlb c.2)) (xE (sww H y3 m) a c.1) = s2 at *
        have T5 := blk b 8 _ _ _ H 2 (s2, y3) (by omega) (by omega) h9 (by omega) (by omega) t4 (by show s2.2.1 = 0; omega) Y3 (by show (s2.1.length : Int) + _ ≤ _; omega) (by show (y3.1.length : Int) + _ < _; omega) (by show y3.2.1 + _ ≤ _; omega) (by show b0 ≤ s2.1.length; omega) nf
        have S5 := TQ_Sd (TQ_tr (TQ_tr T3 T4) (wdU T5)) S2 (fun z => z.elim (fun z => z.elim id id) id)
        generalize stS m b H 0 0 (s2, y3) = c4 at *
        have q0 : (c4.1.1.length : Int) ≤ (s2.1.length : Int) + (q - r - 2) := T5.len
        have q1 : s2.1.length ≤ c4.1.1.length := T5.le
        have q2 : c4.1.2.1 = s2.2.1 + 0 := T5.dl
        have q3 : y3.1.length ≤ c4.2.1.length := T5.lle
        have q4 : c4.2.1.getD (nln (nlb c.2)).toNat 0 = -1 := by rw [T5.kp (nln (nlb c.2)).toNat (by show _ < y3.1.length; omega) (fun z => z)]; exact y3b
        have pm := em_pre (o := 15) (a := 0) (l := nln c.2) (s := c4.1) (by omega)
        have T6 := TQ_em (p0 := p0) (b0 := b0) (H := H) (U := fun x => x = nln (nlb c.2)) (c := c4) (o := 15) (a := 0) (l := nln c.2) T5.hi T5.yl (by omega) (by omega) (by omega) ⟨by omega, by show (0 : Int) ≤ _; omega, by omega, by omega, by omega, by omega, by omega, by omega, by omega, by omega, fun _ => by omega, by omega, fun _ => rfl⟩ ⟨by omega, fun _ => Or.inr (Sd_mo S5 pm.1 pm.2 (Nat.le_refl _) rfl), by omega⟩
        have e15 : psh 15 = 0 := rfl
        rw [e15] at T6
        have q5 : (em 15 0 (nln c.2) c4.1).2.1 = c4.1.2.1 + 0 := T6.dl
        have q6 : c4.1.1.length ≤ (em 15 0 (nln c.2) c4.1).1.length := T6.le
        have q7 := T6.hi
        have q8 := T6.yl
        generalize em 15 0 (nln c.2) c4.1 = s6 at *
        have T7 := TQ_sl (p0 := p0) (b0 := b0) (H := H) (U := fun x => x = nln (nlb c.2)) (c := (s6, c4.2)) (l := nln (nlb c.2)) q7 q8 (by omega) (by show _ < (c4.2.1.length : Int); omega) q4
        have S7 := Sd_sl (m := m) (b0 := b0) (c := (s6, c4.2)) (l := nln (nlb c.2)) q7 (by omega) (by show _ < (c4.2.1.length : Int); omega) (by show b0 ≤ s6.1.length; omega) (by show s6.2.1 = 0; omega)
        refine TQ_U (noX (TQ_b (TQ_tr (TQ_tr (TQ_tr (TQ_tr (TQ_tr (TQ_tr T1 T2) T3) T4) (wdU T5)) T6) T7) (by omega) (by omega) (by omega)) (fun k hk z => ?_)) (fun x hx => Or.inr (by rw [hx]; exact S7))
        rcases z with (((((z | z) | z) | z) | z) | z) | z
        · exact z
        · omega
        · exact z
        · exact z
        · exact z
        · exact z
        · omega
      · -- try
        rw [tsz_nd] at ht
        have l1 := P_le a h8
        have l2 := P_le b h10
        have l3 : p + 1 + 2 ≤ r := by
          obtain ⟨i', a', b', rfl, ho', h30', hv', r', k1, k2, hq2'⟩ := inv_8 h8
          have := P_le a' k1
          omega
        have hbn := (P11_q (tsz b + 1) b (by omega) _ _ _ h10).2
        rw [y_30] at nf ⊢
        simp only [] at nf ⊢
        have T1 := TQ_nl (p0 := p0) (b0 := b0) (H := nln (nlb c.2)) (U := fun x => x = nln c.2) (r := 2) hI hY
        rw [← hy2] at T1
        have y2l : (nlb (nlb c.2)).1.length = c.2.1.length + 2 := by rw [hy2, List.length_append, List.length_replicate]
        have y2a : (nlb (nlb c.2)).1.getD (nln c.2).toNat 0 = -1 := by rw [hy2, en]; exact gD_nl (by omega) (by omega)
        have y2b : (nlb (nlb c.2)).1.getD (nln (nlb c.2)).toNat 0 = -1 := by rw [hy2, en2]; exact gD_nl (by omega) (by omega)
        have y2c : (nlb (nlb c.2)).2.1 = c.2.2.1 := by rw [hy2]
        have Y2 : YL m (nlb (nlb c.2)) := T1.yl
        have nfb := nf
        have ewq := fun s3 y3 (hq : y3.1.length + nW b < 3000) => wW_eq (mc := m) (V := V) (tsz b + 1) b (by omega) dep r q h10 [] s3 y3 hq
        generalize hy22 : nlb (nlb c.2) = y2 at *
        generalize hH2 : nln (nlb c.2) = H2 at *
        generalize hL0 : nln c.2 = L0 at *
        have T2f := fun g => blk a 8 _ _ _ H2 2 (c.1, y2) (by omega) (by omega) h8 (by omega) (by omega) hI hz Y2 (by show (c.1.1.length : Int) + _ ≤ _; omega) (by show (y2.1.length : Int) + _ < _; omega) (by show y2.2.1 + _ ≤ _; omega) hb0 g
        have n1 : NF (stS m a H2 0 0 (c.1, y2)).1 := by
          have z1 := NF_stS nf
          have z2 : NF (wW m b [] (em 23 (m 68 4) (-1) (em 15 0 L0 (stS m a H2 0 0 (c.1, y2)).1), slb H2 ((em 15 0 L0 (stS m a H2 0 0 (c.1, y2)).1).1.length : Int) (stS m a H2 0 0 (c.1, y2)).2)).1 := z1
          exact wW_inv (m := m) (Q := fun s1 => NF s1 → NF (stS m a H2 0 0 (c.1, y2)).1) NF_k b [] (em 23 (m 68 4) (-1) (em 15 0 L0 (stS m a H2 0 0 (c.1, y2)).1), slb H2 ((em 15 0 L0 (stS m a H2 0 0 (c.1, y2)).1).1.length : Int) (stS m a H2 0 0 (c.1, y2)).2) (fun g => g) z2
        have T2 := T2f n1
        generalize stS m a H2 0 0 (c.1, y2) = c1 at *
        have q0 : (c1.1.1.length : Int) ≤ (c.1.1.length : Int) + (r - (p + 1) - 2) := T2.len
        have q1 : c.1.1.length ≤ c1.1.1.length := T2.le
        have q2 : c1.1.2.1 = c.1.2.1 + 0 := T2.dl
        have q3 : y2.1.length ≤ c1.2.1.length := T2.lle
        have q3b : (c1.2.1.length : Int) ≤ (y2.1.length : Int) + 2 * (r - (p + 1)) := T2.lb
        have q3c : c1.2.2.1 ≤ y2.2.1 + (r - (p + 1) - 2) := T2.cn
        have q4 : c1.2.1.getD L0.toNat 0 = -1 := by rw [T2.kp L0.toNat (by show _ < y2.1.length; omega) (fun z => z)]; exact y2a
        have q5 : c1.2.1.getD H2.toNat 0 = -1 := by rw [T2.kp H2.toNat (by show _ < y2.1.length; omega) (fun z => z)]; exact y2b
        have T3 := TQ_em (p0 := p0) (b0 := b0) (H := H2) (U := fun x => x = L0) (c := c1) (o := 15) (a := 0) (l := L0) T2.hi T2.yl (by omega) (by omega) (by omega) ⟨by omega, by show (0 : Int) ≤ _; omega, by omega, by omega, by omega, by omega, by omega, by omega, by omega, by omega, fun _ => by omega, by omega, fun _ => rfl⟩ ⟨by omega, fun _ => Or.inl rfl, by omega⟩
        have e15 : psh 15 = 0 := rfl
        rw [e15] at T3
        have r0 : ((em 15 0 L0 c1.1).1.length : Int) ≤ (c1.1.1.length : Int) + 1 := T3.len
        have r1 : c1.1.1.length ≤ (em 15 0 L0 c1.1).1.length := T3.le
        have r2 : (em 15 0 L0 c1.1).2.1 = c1.1.2.1 + 0 := T3.dl
        have r3 := T3.hi
        have r4 : YL m c1.2 := T3.yl
        generalize em 15 0 L0 c1.1 = s3 at *
        have T4 := TQ_sl (p0 := p0) (b0 := b0) (H := H2) (U := fun x => x = L0) (c := (s3, c1.2)) (l := H2) r3 r4 (by omega) (by show _ < (c1.2.1.length : Int); omega) q5
        have y3l := slb_l (y := c1.2) (l := H2) (v := (s3.1.length : Int))
        have y3g : ∀ k, (slb H2 (s3.1.length : Int) c1.2).1.getD k 0 = if k = H2.toNat then (s3.1.length : Int) else c1.2.1.getD k 0 := fun k => slb_g (by omega) (by omega)
        have Y3 : YL m (slb H2 (s3.1.length : Int) c1.2) := T4.yl
        have y3c : (slb H2 (s3.1.length : Int) c1.2).2.1 ≤ c1.2.2.1 + 0 := T4.cn
        generalize hy3 : slb H2 (s3.1.length : Int) c1.2 = y3 at *
        have T5 := TQ_em (p0 := p0) (b0 := b0) (H := H2) (U := fun x => x = L0) (c := (s3, y3)) (o := 23) (a := m 68 4) (l := -1) r3 Y3 (by show s3.1.length < 3000; omega) (by show _ ≤ s3.2.1 ∧ s3.2.1 ≤ _; omega) (by omega) ⟨by omega, by show (0 : Int) ≤ s3.2.1; omega, by omega, by omega, by omega, by omega, by omega, by omega, by omega, fun _ => hp0, fun _ => by show s3.2.1 = 0; omega, by omega, by omega⟩ ⟨by omega, by omega, fun _ _ => rfl⟩
        have e23 : psh 23 = 0 := rfl
        rw [e23] at T5
        have ga := fun k => getD_ap (l := s3.1) (x := ((23 : Int), m 68 4, (-1 : Int))) (k := k) (by omega)
        have u0 : (em 23 (m 68 4) (-1) s3).1.length = s3.1.length + 1 := (ga 0).1
        have u1 : (em 23 (m 68 4) (-1) s3).1.getD s3.1.length (0, 0, 0) = (23, m 68 4, -1) := (ga _).2.2 rfl
        have u2 : (em 23 (m 68 4) (-1) s3).2.1 = s3.2.1 + 0 := T5.dl
        have u3 := T5.hi
        have HH : Hd b0 (em 23 (m 68 4) (-1) s3) y3 H2 := by
          refine ⟨by omega, ?_, ?_⟩
          · rw [y3g, if_pos rfl, u0]
            omega
          · rw [y3g, if_pos rfl, Int.toNat_natCast, u1]
            exact Or.inl rfl
        have TA := TQ_H (H2 := H) (TQ_tr (TQ_tr (TQ_tr (TQ_tr T1 (wdU T2)) T3) T4) T5) HH
        have nf0 : NF (stS m b H L0 (y3.1.length : Int) (em 25 0 H (wW m b [] (em 23 (m 68 4) (-1) s3, y3)).1, (wW m b [] (em 23 (m 68 4) (-1) s3, y3)).2)).1 := nf
        show TQ m p0 b0 H NoX NoU c ((stS m b H L0 (y3.1.length : Int) (em 25 0 H (wW m b [] (em 23 (m 68 4) (-1) s3, y3)).1, (wW m b [] (em 23 (m 68 4) (-1) s3, y3)).2)).1, slb L0 ((stS m b H L0 (y3.1.length : Int) (em 25 0 H (wW m b [] (em 23 (m 68 4) (-1) s3, y3)).1, (wW m b [] (em 23 (m 68 4) (-1) s3, y3)).2)).1.1.length : Int) (stS m b H L0 (y3.1.length : Int) (em 25 0 H (wW m b [] (em 23 (m 68 4) (-1) s3, y3)).1, (wW m b [] (em 23 (m 68 4) (-1) s3, y3)).2)).2) 0 (q - p) (2 * (q - p))
        rw [ewq (em 23 (m 68 4) (-1) s3) y3 (by omega)] at nf0 ⊢
        generalize em 23 (m 68 4) (-1) s3 = s5 at *
        have W1 := TQ_nl (p0 := p0) (b0 := b0) (H := H) (U := fun x => x = L0 ∨ ((y3.1.length : Int) ≤ x ∧ x < (y3.1.length : Int) + nW b)) (c := (s5, y3)) (r := nW b) u3 Y3
        have n6 : NF (wWs m b [] (y3.1.length : Int) s5) := NF_stS nf0
        have W2 := TQ_wW (p0 := p0) (b0 := b0) (H := H) (U := fun x => x = L0 ∨ ((y3.1.length : Int) ≤ x ∧ x < (y3.1.length : Int) + nW b)) (V := V) C (tsz b + 1) b (by omega) _ _ _ h10 (by omega) (by omega) [] (y3.1.length : Int) (s5, (y3.1 ++ List.replicate (nW b) (-1), y3.2)) u3 W1.yl (by show s5.2.1 = 0; omega) (by show (s5.1.length : Int) + _ ≤ _; omega) (fun x x1 x2 => Or.inr ⟨x1, x2⟩) n6
        have v0 : ((wWs m b [] (y3.1.length : Int) s5).1.length : Int) ≤ (s5.1.length : Int) + nW b := W2.len
        have v1 : s5.1.length ≤ (wWs m b [] (y3.1.length : Int) s5).1.length := W2.le
        have v2 : (wWs m b [] (y3.1.length : Int) s5).2.1 = s5.2.1 + 0 := W2.dl
        have v3 := W2.hi
        have hl6 : (y3.1 ++ List.replicate (nW b) (-1 : Int)).length = y3.1.length + nW b := by rw [List.length_append, List.length_replicate]
        have g6 : ∀ k, y3.1.length ≤ k → k < y3.1.length + nW b → (y3.1 ++ List.replicate (nW b) (-1 : Int)).getD k 0 = -1 := fun k k1 k2 => gD_nl k1 k2
        have g7 : (y3.1 ++ List.replicate (nW b) (-1 : Int)).getD L0.toNat 0 = -1 := by
          have z := W1.kp L0.toNat (by show _ < y3.1.length; omega) (fun z => z)
          have z2 : (y3.1 ++ List.replicate (nW b) (-1 : Int)).getD L0.toNat 0 = y3.1.getD L0.toNat 0 := z
          rw [z2, y3g, if_neg (by omega)]
          exact q4
        have Y6 : YL m (y3.1 ++ List.replicate (nW b) (-1), y3.2) := W1.yl
        generalize hs6 : wWs m b [] (y3.1.length : Int) s5 = s6 at *
        generalize hy6 : ((y3.1 ++ List.replicate (nW b) (-1 : Int), y3.2) : yS) = y6 at *
        have ey6 : y6.1 = y3.1 ++ List.replicate (nW b) (-1 : Int) := by rw [← hy6]
        have ey6c : y6.2 = y3.2 := by rw [← hy6]
        rw [← ey6] at hl6 g6 g7
        have T7 := TQ_em (p0 := p0) (b0 := b0) (H := H) (U := fun x => x = L0 ∨ ((y3.1.length : Int) ≤ x ∧ x < (y3.1.length : Int) + nW b)) (c := (s6, y6)) (o := 25) (a := 0) (l := H) v3 Y6 (by show s6.1.length < 3000; omega) (by show _ ≤ s6.2.1 ∧ s6.2.1 ≤ _; omega) (by omega) ⟨by omega, by show (0 : Int) ≤ s6.2.1; omega, by omega, by omega, by omega, by omega, by omega, by omega, by omega, by omega, fun _ => by show s6.2.1 = 0; omega, by omega, fun _ => rfl⟩ ⟨fun _ => Or.inl rfl, by omega, by omega⟩
        have e25 : psh 25 = 0 := rfl
        rw [e25] at T7
        have w0 : ((em 25 0 H s6).1.length : Int) ≤ (s6.1.length : Int) + 1 := T7.len
        have w1 : s6.1.length ≤ (em 25 0 H s6).1.length := T7.le
        have w2 : (em 25 0 H s6).2.1 = s6.2.1 + 0 := T7.dl
        have w3 := T7.hi
        have e11 : bg 11 b r q = 2 * (q - r) - nW b := rfl
        have o11 : ob 11 b r q = q - r - 3 * nW b := rfl
        have Q8 := (ih b (by omega) 11 _ _ _ (by omega) (by omega) h10 (by omega) (by omega) H L0 (y3.1.length : Int) (em 25 0 H s6, y6) w3 (by show (em 25 0 H s6).2.1 = 0; omega) Y6 (by rw [o11]; show ((em 25 0 H s6).1.length : Int) + _ ≤ _; omega) (by rw [e11]; show (y6.1.length : Int) + _ < _; omega) (by rw [o11]; show y6.2.1 + _ ≤ _; rw [ey6c]; omega) (by show b0 ≤ (em 25 0 H s6).1.length; omega) (fun w => absurd w (by decide)) (fun _ => ⟨by show 0 ≤ _ ∧ _ ≤ (y6.1.length : Int); omega, fun k k1 k2 => g6 k (by omega) (by omega)⟩) nf0).2.2 rfl
        obtain ⟨T8, S8⟩ := Q8
        rw [e11, o11] at T8
        generalize stS m b H L0 (y3.1.length : Int) (em 25 0 H s6, y6) = c8 at *
        generalize em 25 0 H s6 = s7 at *
        have x0 : s7.1.length ≤ c8.1.1.length := T8.le
        have x1 : c8.1.2.1 = s7.2.1 + 0 := T8.dl
        have x2 : y6.1.length ≤ c8.2.1.length := T8.lle
        have x3 : c8.2.1.getD L0.toNat 0 = -1 := by rw [T8.kp L0.toNat (by show _ < y6.1.length; omega) (fun z => by omega)]; exact g7
        have T9 := TQ_sl (p0 := p0) (b0 := b0) (H := H) (U := fun x => x = L0 ∨ ((y3.1.length : Int) ≤ x ∧ x < (y3.1.length : Int) + nW b)) (c := c8) (l := L0) T8.hi T8.yl (by omega) (by omega) x3
        have S9 := Sd_sl (m := m) (b0 := b0) (c := c8) (l := L0) T8.hi (by omega) (by omega) (by omega) (by omega)
        have T8w := TQ_U (U1 := fun x => x = L0 ∨ ((y3.1.length : Int) ≤ x ∧ x < (y3.1.length : Int) + nW b)) T8 (fun x hx => Or.inl (Or.inl hx))
        have TAw := TQ_U (U1 := fun x => x = L0 ∨ ((y3.1.length : Int) ≤ x ∧ x < (y3.1.length : Int) + nW b)) TA (fun x hx => Or.inl (Or.inl hx))
        have F := TQ_tr (TQ_tr (TQ_tr (TQ_tr (TQ_tr TAw W1) W2) T7) T8w) T9
        refine TQ_U (noX (TQ_b F (by omega) (by omega) (by omega)) (fun k hk z => ?_)) (fun x hx => Or.inr ?_)
        · rcases z with ((((z | z) | z) | z) | z) | z
          · rcases z with (((z | z) | z) | z) | z
            · exact z
            · exact z
            · exact z
            · omega
            · exact z
          · exact z
          · exact z
          · exact z
          · omega
          · omega
        · rcases hx with hx | hx
          · rw [hx]
            exact S9
          · have z := S8 x.toNat (by omega) (by omega)
            have e1 : ((x.toNat : Nat) : Int) = x := by omega
            rw [e1] at z
            exact TQ_Sd T9 z (by omega)
      · -- raise
        subst h6
        rw [y_33] at nf ⊢
        have nf1 : NF (us m (i + 1) 3 c.1) := nf
        obtain ⟨u1, u2⟩ := us_n0 C (by omega) (by omega) nf1
        rw [u2] at nf1 ⊢
        have hv := (C.1 (idT m (i + 1))).2.2.1 u1
        have T3 := TQ_em (p0 := p0) (b0 := b0) (H := H) (U := NoU) (c := c) (o := 21) (a := nmI m (idT m (i + 1))) (l := H) hI hY (by omega) (by omega) (by omega) ⟨by omega, by show (0 : Int) ≤ _; omega, by omega, by omega, by omega, by omega, by omega, by omega, fun _ => hv, by omega, by omega, by omega, by omega⟩ (opR 21 _ _ _ (by omega) (by omega))
        exact TQ_b T3 rfl (by omega) (by omega)
      · -- return
        rw [tsz_nd] at ht
        have l1 := P_le a h8
        rw [y_34] at nf ⊢
        have nf1 : NF (xE (sww H c.2 m) a c.1) := nf
        obtain ⟨A1, A2⟩ := QX (p0 := p0) (V := V) C hY (by omega) (by omega) h8 (by omega) (by omega) hI (by omega) (by omega) nf1
        have dA : dl 0 a = 1 := rfl
        rw [dA] at A1 A2
        have T2 := TQ_x (b0 := b0) (U := NoU) (y2 := c.2) A2 (Int.le_refl _) hY (by omega)
        have t2 := T2.dl
        have t3 := A2.1.2
        have hz1 : (xE (sww H c.2 m) a c.1).2.1 = 1 := by
          have z : (xE (sww H c.2 m) a c.1).2.1 = c.1.2.1 + 1 := t2
          omega
        have T3 := TQ_em (p0 := p0) (b0 := b0) (H := H) (U := NoU) (c := (xE (sww H c.2 m) a c.1, c.2)) (o := 22) (a := m 68 4) (l := -1) T2.hi hY (by show (xE (sww H c.2 m) a c.1).1.length < 3000; omega) (by rw [hz1]; omega) (by omega) ⟨by omega, by rw [hz1]; exact Int.le_refl 1, by omega, by omega, by omega, by omega, by omega, by omega, by omega, fun _ => hp0, by omega, by omega, by omega⟩ (opN 22 _ _ _ (by omega) (by omega))
        have e3 : psh 22 = -1 := rfl
        rw [e3] at T3
        exact noX (TQ_b (TQ_tr T2 T3) (by omega) (by omega) (by omega)) (fun k _ z => z.elim id id)
      · -- out
        rw [tsz_nd] at ht
        have l1 := P_le a h8
        rw [y_35] at nf ⊢
        have nf1 : NF (xE (sww H c.2 m) a c.1) := nf
        obtain ⟨A1, A2⟩ := QX (p0 := p0) (V := V) C hY (by omega) (by omega) h8 (by omega) (by omega) hI (by omega) (by omega) nf1
        have dA : dl 0 a = 1 := rfl
        rw [dA] at A1 A2
        have T2 := TQ_x (b0 := b0) (U := NoU) (y2 := c.2) A2 (Int.le_refl _) hY (by omega)
        have t2 := T2.dl
        have t3 := A2.1.2
        have hz1 : (xE (sww H c.2 m) a c.1).2.1 = 1 := by
          have z : (xE (sww H c.2 m) a c.1).2.1 = c.1.2.1 + 1 := t2
          omega
        have T3 := TQ_em (p0 := p0) (b0 := b0) (H := H) (U := NoU) (c := (xE (sww H c.2 m) a c.1, c.2)) (o := 20) (a := 0) (l := -1) T2.hi hY (by show (xE (sww H c.2 m) a c.1).1.length < 3000; omega) (by rw [hz1]; omega) (by omega) ⟨by omega, by rw [hz1]; exact Int.le_refl 1, by omega, by omega, by omega, by omega, by omega, by omega, by omega, by omega, by omega, by omega, fun _ => rfl⟩ (opN 20 _ _ _ (by omega) (by omega))
        have e3 : psh 20 = -1 := rfl
        rw [e3] at T3
        exact noX (TQ_b (TQ_tr T2 T3) (by omega) (by omega) (by omega)) (fun k _ z => z.elim id id)
    · refine ⟨fun z => absurd rfl z, fun z => absurd z (by decide), fun _ => ?_⟩
      obtain ⟨⟨hn0, hn1⟩, hnu⟩ := h11 rfl
      have hlab : (c.2.1.length : Int) + (2 * (q - p) - nW t) < 2990 := hlab
      have hlen : (c.1.1.length : Int) + (q - p - 3 * nW t) ≤ 2990 := hlen
      have hloc : c.2.2.1 + (q - p - 3 * nW t) ≤ 1500 := hloc
      show TQ m p0 b0 H _ _ c _ 0 (q - p - 3 * nW t) (2 * (q - p) - nW t) ∧ _
      rcases inv_11 h with ⟨i, a, b, rfl, g1, g2, g3, r, g4, g5⟩ | ⟨i, a, b, rfl, hpq, ho⟩
      · rw [tsz_nd] at ht
        have l1 := P_le a g4
        have l2 := P_le b g5
        have hbn := (P11_q (tsz b + 1) b (by omega) _ _ _ g5).2
        have eW : nW (nd 31 i a b) = nW b + 1 := rfl
        rw [eW] at hn1 hnu hlab hlen hloc ⊢
        rw [y_31] at nf ⊢
        have ew : w32 (n + 1) = n + 1 := w32_of (by omega) (by omega)
        rw [ew] at nf ⊢
        have T1 := TQ_sl (p0 := p0) (b0 := b0) (H := H) (U := fun x => x = l) (c := c) (l := n) hI hY hn0 (by omega) (hnu n.toNat (by omega) (by omega))
        have S1 := Sd_sl (m := m) (b0 := b0) (c := c) (l := n) hI hn0 (by omega) hb0 hz
        have y1l := slb_l (y := c.2) (l := n) (v := (c.1.1.length : Int))
        have y1g : ∀ k, (slb n (c.1.1.length : Int) c.2).1.getD k 0 = if k = n.toNat then (c.1.1.length : Int) else c.2.1.getD k 0 := fun k => slb_g hn0 (by omega)
        have Y1 : YL m (slb n (c.1.1.length : Int) c.2) := T1.yl
        have y1c : (slb n (c.1.1.length : Int) c.2).2.1 ≤ c.2.2.1 + 0 := T1.cn
        generalize slb n (c.1.1.length : Int) c.2 = y1 at *
        have n0 := NF_stS (c := (em 15 0 l (stS m a H 0 0 (c.1, y1)).1, (stS m a H 0 0 (c.1, y1)).2)) nf
        have n1 : NF (stS m a H 0 0 (c.1, y1)).1 := n0
        have T2 := blk a 8 _ _ _ H 2 (c.1, y1) (by omega) (by omega) g4 (by omega) (by omega) hI hz Y1 (by show (c.1.1.length : Int) + _ ≤ _; omega) (by show (y1.1.length : Int) + _ < _; omega) (by show y1.2.1 + _ ≤ _; omega) hb0 n1
        have S2 := TQ_Sd T2 S1 (fun z => z)
        generalize stS m a H 0 0 (c.1, y1) = c1 at *
        have q0 : (c1.1.1.length : Int) ≤ (c.1.1.length : Int) + (r - (p + 2) - 2) := T2.len
        have q1 : c.1.1.length ≤ c1.1.1.length := T2.le
        have q2 : c1.1.2.1 = c.1.2.1 + 0 := T2.dl
        have q3 : y1.1.length ≤ c1.2.1.length := T2.lle
        have q3b : (c1.2.1.length : Int) ≤ (y1.1.length : Int) + 2 * (r - (p + 2)) := T2.lb
        have q3c : c1.2.2.1 ≤ y1.2.1 + (r - (p + 2) - 2) := T2.cn
        have T3 := TQ_em (p0 := p0) (b0 := b0) (H := H) (U := fun x => x = l) (c := c1) (o := 15) (a := 0) (l := l) T2.hi T2.yl (by omega) (by omega) (by omega) ⟨by omega, by show (0 : Int) ≤ _; omega, by omega, by omega, by omega, by omega, by omega, by omega, by omega, by omega, fun _ => by omega, by omega, fun _ => rfl⟩ ⟨by omega, fun _ => Or.inl rfl, by omega⟩
        have e15 : psh 15 = 0 := rfl
        rw [e15] at T3
        have S3 := TQ_Sd T3 S2 (fun z => z)
        have r0 : ((em 15 0 l c1.1).1.length : Int) ≤ (c1.1.1.length : Int) + 1 := T3.len
        have r1 : c1.1.1.length ≤ (em 15 0 l c1.1).1.length := T3.le
        have r2 : (em 15 0 l c1.1).2.1 = c1.1.2.1 + 0 := T3.dl
        have r3 := T3.hi
        have r4 : YL m c1.2 := T3.yl
        have e11 : bg 11 b r q = 2 * (q - r) - nW b := rfl
        have o11 : ob 11 b r q = q - r - 3 * nW b := rfl
        have Q8 := (ih b (by omega) 11 _ _ _ (by omega) (by omega) g5 (by omega) (by omega) H l (n + 1) (em 15 0 l c1.1, c1.2) r3 (by show (em 15 0 l c1.1).2.1 = 0; omega) r4 (by rw [o11]; show ((em 15 0 l c1.1).1.length : Int) + _ ≤ _; omega) (by rw [e11]; show (c1.2.1.length : Int) + _ < _; omega) (by rw [o11]; show c1.2.2.1 + _ ≤ _; omega) (by show b0 ≤ (em 15 0 l c1.1).1.length; omega) (fun w => absurd w (by decide)) (fun _ => ⟨by show 0 ≤ _ ∧ _ ≤ (c1.2.1.length : Int); omega, fun k k1 k2 => by
          show c1.2.1.getD k 0 = -1
          rw [T2.kp k (by show k < y1.1.length; omega) (fun z => z)]
          show y1.1.getD k 0 = -1
          rw [y1g, if_neg (by omega)]
          exact hnu k (by omega) (by omega)⟩) nf).2.2 rfl
        obtain ⟨T4, S4⟩ := Q8
        rw [e11, o11] at T4
        have S5 := TQ_Sd T4 S3 (by omega)
        generalize stS m b H l (n + 1) (em 15 0 l c1.1, c1.2) = c8 at *
        refine ⟨TQ_X (TQ_b (TQ_tr (TQ_tr (TQ_tr T1 (wdU T2)) T3) T4) (by omega) (by omega) (by omega)) (fun k hk => ⟨fun z => ?_, fun z => ?_⟩), fun k k1 k2 => ?_⟩
        · rcases z with ((z | z) | z) | z
          · omega
          · exact z.elim
          · exact z.elim
          · omega
        · by_cases hk2 : k = n.toNat
          · exact Or.inl (Or.inl (Or.inl hk2))
          · exact Or.inr (by omega)
        · by_cases hk2 : (k : Int) = n
          · rw [hk2]
            exact S5
          · exact S4 k (by omega) (by omega)
      · have eW : nW (nd 32 i a b) = 0 := rfl
        rw [eW, y_32]
        refine ⟨TQ_X (TQ_b (TQ_rf hI hY) rfl (by omega) (by omega)) (fun k hk => ⟨fun z => z.elim, fun z => by omega⟩), fun k k1 k2 => by omega⟩
    · refine ⟨fun _ z => absurd rfl z, fun _ => ?_, fun z => absurd z (by decide)⟩
      obtain ⟨⟨hl0, hl1⟩, hlu⟩ := h12 rfl
      have hlab : (c.2.1.length : Int) + 2 * (q - p) < 2990 := hlab
      have hlen : (c.1.1.length : Int) + (q - p) ≤ 2990 := hlen
      have hloc : c.2.2.1 + (q - p) ≤ 1500 := hloc
      show TQ m p0 b0 H _ _ c _ 0 (q - p) (2 * (q - p)) ∧ _
      obtain ⟨i, a, b, rfl, r, g1, g2, g3⟩ := inv_12 h
      rw [tsz_nd] at ht
      have l1 := P_le a g1
      have l2 := P_le b g3
      have l3 : p + 2 ≤ r := by
        obtain ⟨i', a', b', rfl, ho, h30', hv, r', k1, k2, hq2⟩ := inv_8 g1
        have := P_le a' k1
        omega
      rw [y_36] at nf ⊢
      simp only [] at nf ⊢
      have n0 := NF_stS (c := (em 15 0 (nln (stS m a H 0 0 c).2) (stS m a H 0 0 c).1, slb l ((em 15 0 (nln (stS m a H 0 0 c).2) (stS m a H 0 0 c).1).1.length : Int) (nlb (stS m a H 0 0 c).2))) nf
      have n1 : NF (stS m a H 0 0 c).1 := n0
      have T1 := blk a 8 _ _ _ H 2 c (by omega) (by omega) g1 (by omega) (by omega) hI hz hY (by omega) (by omega) (by omega) hb0 n1
      generalize stS m a H 0 0 c = c1 at *
      have q0 := T1.len
      have q1 := T1.le
      have q2 := T1.dl
      have q3 := T1.lle
      have q3b := T1.lb
      have q3c := T1.cn
      have q4 : c1.2.1.getD l.toNat 0 = -1 := by rw [T1.kp l.toNat (by omega) (fun z => z)]; exact hlu
      have hl3 : c1.2.1.length < 3000 := by omega
      have en := nln_1 hl3
      have hy1 := nlb_1 hl3
      have T2 := TQ_nl (p0 := p0) (b0 := b0) (H := H) (U := fun x => x = nln c1.2) (r := 1) T1.hi T1.yl
      rw [← hy1] at T2
      have y1l : (nlb c1.2).1.length = c1.2.1.length + 1 := by rw [hy1, List.length_append, List.length_replicate]
      have y1u : (nlb c1.2).1.getD (nln c1.2).toNat 0 = -1 := by rw [hy1, en]; exact gD_nl (by omega) (by omega)
      have y1u2 : (nlb c1.2).1.getD l.toNat 0 = -1 := by
        have z := T2.kp l.toNat (by omega) (fun z => z)
        have z2 : (nlb c1.2).1.getD l.toNat 0 = c1.2.1.getD l.toNat 0 := z
        rw [z2]
        exact q4
      have y1c : (nlb c1.2).2.1 = c1.2.2.1 := by rw [hy1]
      have Y1 : YL m (nlb c1.2) := T2.yl
      generalize nln c1.2 = L at *
      generalize nlb c1.2 = y1 at *
      have T3 := TQ_em (p0 := p0) (b0 := b0) (H := H) (U := fun x => x = L) (c := (c1.1, y1)) (o := 15) (a := 0) (l := L) T1.hi Y1 (by show c1.1.1.length < 3000; omega) (by show _ ≤ c1.1.2.1 ∧ c1.1.2.1 ≤ _; omega) (by omega) ⟨by omega, by show (0 : Int) ≤ c1.1.2.1; omega, by omega, by omega, by omega, by omega, by omega, by omega, by omega, by omega, fun _ => by show c1.1.2.1 = 0; omega, by omega, fun _ => rfl⟩ ⟨by omega, fun _ => Or.inl rfl, by omega⟩
      have e15 : psh 15 = 0 := rfl
      rw [e15] at T3
      have r0 : ((em 15 0 L c1.1).1.length : Int) ≤ (c1.1.1.length : Int) + 1 := T3.len
      have r1 : c1.1.1.length ≤ (em 15 0 L c1.1).1.length := T3.le
      have r2 : (em 15 0 L c1.1).2.1 = c1.1.2.1 + 0 := T3.dl
      have r3 := T3.hi
      generalize em 15 0 L c1.1 = s2 at *
      have T4 := TQ_sl (p0 := p0) (b0 := b0) (H := H) (U := fun x => x = L) (c := (s2, y1)) (l := l) r3 Y1 hl0 (by show l < (y1.1.length : Int); omega) y1u2
      have S4 := Sd_sl (m := m) (b0 := b0) (c := (s2, y1)) (l := l) r3 hl0 (by show l < (y1.1.length : Int); omega) (by show b0 ≤ s2.1.length; omega) (by show s2.2.1 = 0; omega)
      have y2l := slb_l (y := y1) (l := l) (v := (s2.1.length : Int))
      have y2g : ∀ k, (slb l (s2.1.length : Int) y1).1.getD k 0 = if k = l.toNat then (s2.1.length : Int) else y1.1.getD k 0 := fun k => slb_g hl0 (by omega)
      have Y2 : YL m (slb l (s2.1.length : Int) y1) := T4.yl
      have y2c : (slb l (s2.1.length : Int) y1).2.1 ≤ y1.2.1 + 0 := T4.cn
      generalize slb l (s2.1.length : Int) y1 = y2 at *
      have T5 := blk b 8 _ _ _ H 2 (s2, y2) (by omega) (by omega) g3 (by omega) (by omega) r3 (by show s2.2.1 = 0; omega) Y2 (by show (s2.1.length : Int) + _ ≤ _; omega) (by show (y2.1.length : Int) + _ < _; omega) (by show y2.2.1 + _ ≤ _; omega) (by show b0 ≤ s2.1.length; omega) nf
      have S5 := TQ_Sd T5 S4 (fun z => z)
      generalize stS m b H 0 0 (s2, y2) = c4 at *
      have x0 : s2.1.length ≤ c4.1.1.length := T5.le
      have x1 : c4.1.2.1 = s2.2.1 + 0 := T5.dl
      have x2 : y2.1.length ≤ c4.2.1.length := T5.lle
      have x3 : c4.2.1.getD L.toNat 0 = -1 := by
        rw [T5.kp L.toNat (by show _ < y2.1.length; omega) (fun z => z)]
        show y2.1.getD L.toNat 0 = -1
        rw [y2g, if_neg (by omega)]
        exact y1u
      have T6 := TQ_sl (p0 := p0) (b0 := b0) (H := H) (U := fun x => x = L) (c := c4) (l := L) T5.hi T5.yl (by omega) (by omega) x3
      have S6 := Sd_sl (m := m) (b0 := b0) (c := c4) (l := L) T5.hi (by omega) (by omega) (by omega) (by omega)
      have S7 := TQ_Sd T6 S5 (by omega)
      refine ⟨TQ_U (TQ_X (TQ_b (TQ_tr (TQ_tr (TQ_tr (TQ_tr (TQ_tr (wdU T1) T2) T3) T4) (wdU T5)) T6) (by omega) (by omega) (by omega)) (fun k hk => ⟨fun z => ?_, fun z => Or.inl (Or.inl (Or.inr z))⟩)) (fun x hx => Or.inr (by rw [hx]; exact S6)), S7⟩
      rcases z with ((((z | z) | z) | z) | z) | z
      · exact z.elim
      · exact z.elim
      · exact z.elim
      · exact z
      · exact z.elim
      · omega
end Tsv
