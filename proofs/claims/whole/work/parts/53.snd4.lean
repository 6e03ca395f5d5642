/-! SOUNDNESS, further nodes -/
section Sound4
variable {p : Program} {l : Launch} {e : Env} {R : Room} {s : State} {m : MethodId} {args : Array Value} {below : List Frame} {meth : Method} {c : Code} {Q : State → Prop}
variable {G : xG} {st : xStt} {H0 : Heap} {hE : xH} {cd : xC} {cc : ByteArray} {nm : String} {own : Nat} {ini : Bool} {nL rt d : Nat} {cl : Nat → List Int → xH → Option (List Int × xH)} {F : Nat} {rv : List Int} {hF : xH}

theorem xloop_e {cf bf uf : xS → Option xR} {n : Nat} {x : xS} {z : xR} (h : xloop cf bf uf (n + 1) x = some z) :
    (∃ s1, cf x = some (0, [0], s1) ∧ z = (0, [], s1)) ∨ ∃ s1, cf x = some (0, [1], s1) ∧
      ((∃ k v s2, bf s1 = some (k, v, s2) ∧ (k = 0 ∨ k = 2) ∧ ∃ v3 s3, uf s2 = some (0, v3, s3) ∧ xloop cf bf uf n s3 = some z) ∨ (∃ v s2, bf s1 = some (1, v, s2) ∧ z = (0, [], s2)) ∨ ∃ v s2, bf s1 = some (3, v, s2) ∧ z = (3, v, s2)) := by
  unfold xloop at h
  split at h
  · rename_i s1 e1
    refine Or.inr ⟨s1, e1, ?_⟩
    split at h
    · rename_i v s2 e2
      split at h
      · rename_i v3 s3 e3
        exact Or.inl ⟨0, v, s2, e2, Or.inl rfl, v3, s3, e3, h⟩
      · cases h
    · rename_i v s2 e2
      split at h
      · rename_i v3 s3 e3
        exact Or.inl ⟨2, v, s2, e2, Or.inr rfl, v3, s3, e3, h⟩
      · cases h
    · rename_i v s2 e2
      exact Or.inr (Or.inl ⟨v, s2, e2, (Option.some.inj h).symm⟩)
    · rename_i v s2 e2
      exact Or.inr (Or.inr ⟨v, s2, e2, (Option.some.inj h).symm⟩)
    · cases h
  · rename_i s1 e1
    exact Or.inl ⟨s1, e1, (Option.some.inj h).symm⟩
  · cases h
theorem xdo_e {cf bf : xS → Option xR} {n : Nat} {x : xS} {z : xR} (h : xdo bf cf (n + 1) x = some z) :
    (∃ k v s1, bf x = some (k, v, s1) ∧ (k = 0 ∨ k = 2) ∧ ((∃ s2, cf s1 = some (0, [1], s2) ∧ xdo bf cf n s2 = some z) ∨ ∃ s2, cf s1 = some (0, [0], s2) ∧ z = (0, [], s2))) ∨ (∃ v s1, bf x = some (1, v, s1) ∧ z = (0, [], s1)) ∨ ∃ v s1, bf x = some (3, v, s1) ∧ z = (3, v, s1) := by
  unfold xdo at h
  split at h
  · rename_i v s1 e1
    split at h
    · rename_i s2 e2
      exact Or.inl ⟨0, v, s1, e1, Or.inl rfl, Or.inl ⟨s2, e2, h⟩⟩
    · rename_i s2 e2
      exact Or.inl ⟨0, v, s1, e1, Or.inl rfl, Or.inr ⟨s2, e2, (Option.some.inj h).symm⟩⟩
    · cases h
  · rename_i v s1 e1
    split at h
    · rename_i s2 e2
      exact Or.inl ⟨2, v, s1, e1, Or.inr rfl, Or.inl ⟨s2, e2, h⟩⟩
    · rename_i s2 e2
      exact Or.inl ⟨2, v, s1, e1, Or.inr rfl, Or.inr ⟨s2, e2, (Option.some.inj h).symm⟩⟩
    · cases h
  · rename_i v s1 e1
    exact Or.inr (Or.inl ⟨v, s1, e1, (Option.some.inj h).symm⟩)
  · rename_i v s1 e1
    exact Or.inr (Or.inr ⟨v, s1, e1, (Option.some.inj h).symm⟩)
  · cases h
theorem sn_41 (K : Kx p l e R s m args below meth c Q G st H0 hE cd cc nm own ini nL rt d cl F rv hF) (i : Int) (a b c0 : xT) (ha : Snd p l e R s m args below meth c Q G st H0 hE cd own ini nL rt cl F rv hF a) (hb : Snd p l e R s m args below meth c Q G st H0 hE cd own ini nL rt cl F rv hF b) (hc0 : Snd p l e R s m args below meth c Q G st H0 hE cd own ini nL rt cl F rv hF c0) (va : kcl (tagT a) = 1) (vb : kcl (tagT b) = 2) (vc : kcl (tagT c0) = 2) : Snd p l e R s m args below meth c Q G st H0 hE cd own ini nL rt cl F rv hF (n3 41 i a b c0) := by
  obtain ⟨k1, k2, k3, k4, k5, k6, k7, k8, k9, k10, k11, k12, k13, k14, k15, k16, k17, k18, k19, k20, ⟨k21, k21'⟩, k22, k23, k24, k25⟩ := K
  intro pc brk cnt dep sa g x ctl vs x' p1 p2 hc he hL hh
  simp only [ck] at hc
  simp only [ev] at he
  split at hc
  · rename_i t f hca
    split at hc
    · rename_i q1 q1' hcb
      split at hc
      · rename_i q2 q2' hcc
        obtain ⟨c1, hc⟩ := if_some hc
        cases hc
        simp only [Bool.and_eq_true] at c1
        obtain ⟨c1, c2⟩ := c1
        have key : ∀ (n : Nat) (x : xS), xloop (fun t => ev pft cl F pS a 0 t) (fun t => ev pft cl F pS b 0 t) (fun t => ev pft cl F pS c0 0 t) n x = some (ctl, vs, x') → x.1.length = nL → hx hE x.2 → hx x.2 x'.2 ∧ x'.1.length = nL ∧ ((sa.map fun a => cat a.1).sum ≤ dep → (x'.2.1 - hE.1 ≤ R.cells ∧ hsl x'.2 - hsl hE ≤ R.slots) → SK (At p l e R s m args below meth c Q G st H0 hE cd) rv hF p1 brk cnt sa ctl vs x' → At p l e R s m args below meth c Q G st H0 hE cd pc x sa) := by
          intro n
          induction n with
          | zero => intro x he; cases he
          | succ n ih =>
            intro x he hL hh
            rcases xloop_e he with ⟨s1, ea, hz⟩ | ⟨s1, ea, hrest⟩
            · cases hz
              obtain ⟨A1, A2, A3⟩ := ha _ _ _ _ sa _ _ _ _ _ _ _ hca ea hL hh
              simp only [Concl, va] at A3
              exact ⟨A1, A2, fun hd hbd hk => A3 hd hbd 0 rfl hk⟩
            · obtain ⟨A1, A2, A3⟩ := ha _ _ _ _ sa _ _ _ _ _ _ _ hca ea hL hh
              simp only [Concl, va] at A3
              rcases hrest with ⟨k, v, s2, eb, hk0, v3, s3, ec, he⟩ | ⟨v, s2, eb, hz⟩ | ⟨v, s2, eb, hz⟩
              · obtain ⟨B1, B2, B3⟩ := hb _ _ _ _ sa _ _ _ _ _ _ _ hcb eb A2 (hx_tr hh A1)
                simp only [Concl, vb] at B3
                obtain ⟨C1, C2, C3⟩ := hc0 _ _ _ _ sa _ _ _ _ _ _ _ hcc ec B2 (hx_tr hh (hx_tr A1 B1))
                simp only [Concl, vc] at C3
                obtain ⟨I1, I2, I3⟩ := ih s3 he C2 (hx_tr hh (hx_tr A1 (hx_tr B1 C1)))
                refine ⟨hx_tr A1 (hx_tr B1 (hx_tr C1 I1)), I2, fun hd hbd hk => ?_⟩
                have d3 := bd k9 (hx_tr hh (hx_tr A1 (hx_tr B1 C1))) I1 hbd
                have d2 := bd k9 (hx_tr hh (hx_tr A1 B1)) C1 d3
                have d1 := bd k9 (hx_tr hh A1) B1 d2
                have h5 : At p l e R s m args below meth c Q G st H0 hE cd i.toNat s2 sa := C3 hd d3 (At_eqv (eqv_sym c2) (I3 hd hbd hk))
                refine A3 hd d1 1 rfl (B3 hd d2 ?_)
                rcases hk0 with rfl | rfl
                · exact At_eqv (eqv_sym c1) h5
                · exact h5
              · cases hz
                obtain ⟨B1, B2, B3⟩ := hb _ _ _ _ sa _ _ _ _ _ _ _ hcb eb A2 (hx_tr hh A1)
                simp only [Concl, vb] at B3
                exact ⟨hx_tr A1 B1, B2, fun hd hbd hk => A3 hd (bd k9 (hx_tr hh A1) B1 hbd) 1 rfl (B3 hd hbd hk)⟩
              · cases hz
                obtain ⟨B1, B2, B3⟩ := hb _ _ _ _ sa _ _ _ _ _ _ _ hcb eb A2 (hx_tr hh A1)
                simp only [Concl, vb] at B3
                exact ⟨hx_tr A1 B1, B2, fun hd hbd hk => A3 hd (bd k9 (hx_tr hh A1) B1 hbd) 1 rfl (B3 hd hbd hk)⟩
        obtain ⟨K1, K2, K3⟩ := key F x he hL hh
        exact ⟨K1, K2, fun hd hbd hk => K3 hd hbd hk⟩
      · cases hc
    · cases hc
  · cases hc
theorem sn_42 (K : Kx p l e R s m args below meth c Q G st H0 hE cd cc nm own ini nL rt d cl F rv hF) (i : Int) (a b : xT) (hb : Snd p l e R s m args below meth c Q G st H0 hE cd own ini nL rt cl F rv hF b) (vb : kcl (tagT b) = 2) : Snd p l e R s m args below meth c Q G st H0 hE cd own ini nL rt cl F rv hF (nd 42 i a b) := by
  obtain ⟨k1, k2, k3, k4, k5, k6, k7, k8, k9, k10, k11, k12, k13, k14, k15, k16, k17, k18, k19, k20, ⟨k21, k21'⟩, k22, k23, k24, k25⟩ := K
  intro pc brk cnt dep sa g x ctl vs x' p1 p2 hc he hL hh
  simp only [ck] at hc
  simp only [ev] at he
  split at hc
  · rename_i q1 q1' hcb
    obtain ⟨c1, hc⟩ := if_some hc
    cases hc
    have key : ∀ (n : Nat) (x : xS), xloop (fun t => some (0, [1], t)) (fun t => ev pft cl F pS b 0 t) (fun t => some (0, [], t)) n x = some (ctl, vs, x') → x.1.length = nL → hx hE x.2 → hx x.2 x'.2 ∧ x'.1.length = nL ∧ ((sa.map fun a => cat a.1).sum ≤ dep → (x'.2.1 - hE.1 ≤ R.cells ∧ hsl x'.2 - hsl hE ≤ R.slots) → SK (At p l e R s m args below meth c Q G st H0 hE cd) rv hF i.toNat brk cnt sa ctl vs x' → At p l e R s m args below meth c Q G st H0 hE cd pc x sa) := by
      intro n
      induction n with
      | zero => intro x he; cases he
      | succ n ih =>
        intro x he hL hh
        rcases xloop_e he with ⟨s1, ea, hz⟩ | ⟨s1, ea, hrest⟩
        · cases ea
        · cases ea
          rcases hrest with ⟨k, v, s2, eb, hk0, v3, s3, ec, he⟩ | ⟨v, s2, eb, hz⟩ | ⟨v, s2, eb, hz⟩
          · cases ec
            obtain ⟨B1, B2, B3⟩ := hb _ _ _ _ sa _ _ _ _ _ _ _ hcb eb hL hh
            simp only [Concl, vb] at B3
            obtain ⟨I1, I2, I3⟩ := ih _ he B2 (hx_tr hh B1)
            refine ⟨hx_tr B1 I1, I2, fun hd hbd hk => ?_⟩
            have h5 := I3 hd hbd hk
            refine B3 hd (bd k9 (hx_tr hh B1) I1 hbd) ?_
            rcases hk0 with rfl | rfl
            · exact At_eqv (eqv_sym c1) h5
            · exact h5
          · cases hz
            obtain ⟨B1, B2, B3⟩ := hb _ _ _ _ sa _ _ _ _ _ _ _ hcb eb hL hh
            simp only [Concl, vb] at B3
            exact ⟨B1, B2, fun hd hbd hk => B3 hd hbd hk⟩
          · cases hz
            obtain ⟨B1, B2, B3⟩ := hb _ _ _ _ sa _ _ _ _ _ _ _ hcb eb hL hh
            simp only [Concl, vb] at B3
            exact ⟨B1, B2, fun hd hbd hk => B3 hd hbd hk⟩
    obtain ⟨K1, K2, K3⟩ := key F x he hL hh
    exact ⟨K1, K2, fun hd hbd hk => K3 hd hbd hk⟩
  · cases hc
theorem sn_43 (K : Kx p l e R s m args below meth c Q G st H0 hE cd cc nm own ini nL rt d cl F rv hF) (i : Int) (a b : xT) (ha : Snd p l e R s m args below meth c Q G st H0 hE cd own ini nL rt cl F rv hF a) (hb : Snd p l e R s m args below meth c Q G st H0 hE cd own ini nL rt cl F rv hF b) (va : kcl (tagT a) = 2) (vb : kcl (tagT b) = 1) : Snd p l e R s m args below meth c Q G st H0 hE cd own ini nL rt cl F rv hF (nd 43 i a b) := by
  obtain ⟨k1, k2, k3, k4, k5, k6, k7, k8, k9, k10, k11, k12, k13, k14, k15, k16, k17, k18, k19, k20, ⟨k21, k21'⟩, k22, k23, k24, k25⟩ := K
  intro pc brk cnt dep sa g x ctl vs x' p1 p2 hc he hL hh
  simp only [ck] at hc
  simp only [ev] at he
  split at hc
  · rename_i t f hcb
    split at hc
    · rename_i q1 q1' hca
      obtain ⟨c1, hc⟩ := if_some hc
      cases hc
      simp only [Bool.and_eq_true] at c1
      obtain ⟨c1, c2⟩ := c1
      have key : ∀ (n : Nat) (x : xS), xdo (fun t => ev pft cl F pS a 0 t) (fun t => ev pft cl F pS b 0 t) n x = some (ctl, vs, x') → x.1.length = nL → hx hE x.2 → hx x.2 x'.2 ∧ x'.1.length = nL ∧ ((sa.map fun a => cat a.1).sum ≤ dep → (x'.2.1 - hE.1 ≤ R.cells ∧ hsl x'.2 - hsl hE ≤ R.slots) → SK (At p l e R s m args below meth c Q G st H0 hE cd) rv hF p1 brk cnt sa ctl vs x' → At p l e R s m args below meth c Q G st H0 hE cd pc x sa) := by
        intro n
        induction n with
        | zero => intro x he; cases he
        | succ n ih =>
          intro x he hL hh
          rcases xdo_e he with ⟨k, v, s1, ea, hk0, hrest⟩ | ⟨v, s1, ea, hz⟩ | ⟨v, s1, ea, hz⟩
          · obtain ⟨A1, A2, A3⟩ := ha _ _ _ _ sa _ _ _ _ _ _ _ hca ea hL hh
            simp only [Concl, va] at A3
            rcases hrest with ⟨s2, eb, he⟩ | ⟨s2, eb, hz⟩
            · obtain ⟨B1, B2, B3⟩ := hb _ _ _ _ sa _ _ _ _ _ _ _ hcb eb A2 (hx_tr hh A1)
              simp only [Concl, vb] at B3
              obtain ⟨I1, I2, I3⟩ := ih s2 he B2 (hx_tr hh (hx_tr A1 B1))
              refine ⟨hx_tr A1 (hx_tr B1 I1), I2, fun hd hbd hk => ?_⟩
              have d2 := bd k9 (hx_tr hh (hx_tr A1 B1)) I1 hbd
              have d1 := bd k9 (hx_tr hh A1) B1 d2
              have h5 : At p l e R s m args below meth c Q G st H0 hE cd i.toNat s1 sa := B3 hd d2 1 rfl (At_eqv (eqv_sym c2) (I3 hd hbd hk))
              refine A3 hd d1 ?_
              rcases hk0 with rfl | rfl
              · exact At_eqv (eqv_sym c1) h5
              · exact h5
            · cases hz
              obtain ⟨B1, B2, B3⟩ := hb _ _ _ _ sa _ _ _ _ _ _ _ hcb eb A2 (hx_tr hh A1)
              simp only [Concl, vb] at B3
              refine ⟨hx_tr A1 B1, B2, fun hd hbd hk => ?_⟩
              have h5 : At p l e R s m args below meth c Q G st H0 hE cd i.toNat s1 sa := B3 hd hbd 0 rfl hk
              refine A3 hd (bd k9 (hx_tr hh A1) B1 hbd) ?_
              rcases hk0 with rfl | rfl
              · exact At_eqv (eqv_sym c1) h5
              · exact h5
          · cases hz
            obtain ⟨A1, A2, A3⟩ := ha _ _ _ _ sa _ _ _ _ _ _ _ hca ea hL hh
            simp only [Concl, va] at A3
            exact ⟨A1, A2, fun hd hbd hk => A3 hd hbd hk⟩
          · cases hz
            obtain ⟨A1, A2, A3⟩ := ha _ _ _ _ sa _ _ _ _ _ _ _ hca ea hL hh
            simp only [Concl, va] at A3
            exact ⟨A1, A2, fun hd hbd hk => A3 hd hbd hk⟩
      obtain ⟨K1, K2, K3⟩ := key F x he hL hh
      exact ⟨K1, K2, fun hd hbd hk => K3 hd hbd hk⟩
    · cases hc
  · cases hc
theorem sn_54 (K : Kx p l e R s m args below meth c Q G st H0 hE cd cc nm own ini nL rt d cl F rv hF) (i : Int) (a b : xT) (ha : Snd p l e R s m args below meth c Q G st H0 hE cd own ini nL rt cl F rv hF a) (hb : Snd p l e R s m args below meth c Q G st H0 hE cd own ini nL rt cl F rv hF b) (va : kcl (tagT a) = 0) (vb : kcl (tagT b) = 0) : Snd p l e R s m args below meth c Q G st H0 hE cd own ini nL rt cl F rv hF (nd 54 i a b) := by
  obtain ⟨k1, k2, k3, k4, k5, k6, k7, k8, k9, k10, k11, k12, k13, k14, k15, k16, k17, k18, k19, k20, ⟨k21, k21'⟩, k22, k23, k24, k25⟩ := K
  intro pc brk cnt dep sa g x ctl vs x' p1 p2 hc he hL hh
  simp only [ck] at hc
  simp only [ev] at he
  split at hc
  · rename_i q1 q1' hca
    split at hc
    · rename_i q3 hq3
      obtain ⟨q2, hq2, hq3⟩ := bn_e hq3
      split at hc
      · rename_i q4 q4' hcb
        obtain ⟨⟨c1, c2, c3, c4, c5, c6⟩, hc⟩ := if_some hc
        have hc := mp_e hc
        obtain ⟨q5, hq5, hq6⟩ := bn_e hc
        obtain ⟨n1, s1, ea, he⟩ := xb_e he
        split at he
        · rename_i o hz
          obtain ⟨n2, s2, eb, he⟩ := xb_e he
          split at he
          · rename_i w o2 hw hz2
            obtain ⟨f1, he⟩ := if_some he
            cases he
            obtain ⟨A1, A2, A3⟩ := ha _ _ _ _ sa _ _ _ _ _ _ _ hca ea hL hh
            have hmod : i.toNat % 1000000 % 1000 = i.toNat % 1000 := by omega
            obtain ⟨B1, B2, B3⟩ := hb _ _ _ _ ((0, s1.2.2.2.2 o (i.toNat % 1000)) :: (2, n1) :: sa) _ _ _ _ _ _ _ hcb eb A2 (hx_tr hh A1)
            simp only [Concl, va, vb] at A3 B3
            have N1 := hx_put s2.2 o (i.toNat % 1000) w
            refine ⟨hx_tr A1 (hx_tr B1 N1), B2, fun hd hbd hk => ?_⟩
            have d2 := bd k9 (hx_tr hh (hx_tr A1 B1)) N1 hbd
            have d1 := bd k9 (hx_tr hh A1) B1 d2
            have ho2 : o2 = o := by
              have := (xob_e hz).1
              have := (xob_e hz2).1
              omega
            subst ho2
            have hk2 : At p l e R s m args below meth c Q G st H0 hE cd p1 (s2.1, hput s2.2 o2 (i.toNat % 1000000 % 1000) w) sa := by rw [hmod]; exact hk
            have h6 := at_Put (i := i.toNat % 1000000) k1 k2 k3 k4 k5 k6.1 k13 hz2 f1 (by rw [hmod, c3]; rfl) (fun z => by rw [hmod, c4] at z; cases z) hq6 hk2
            rw [hmod, c3] at h6
            have h7 : At p l e R s m args below meth c Q G st H0 hE cd q4 s2 ((0, n2) :: (0, s1.2.2.2.2 o2 (i.toNat % 1000)) :: (2, n1) :: sa) := by
              have h11 : i.toNat / 1000000 < 11 := by omega
              have := at_Bin (op := i.toNat / 1000000) (sa := (2, n1) :: sa) k1 k2 k3 (by omega) hw hq5 (by rw [if_pos h11]; exact h6)
              rw [if_pos h11] at this
              exact this
            have h8 : At p l e R s m args below meth c Q G st H0 hE cd q3 s1 ((0, s1.2.2.2.2 o2 (i.toNat % 1000)) :: (2, n1) :: sa) := B3 (by
              have := sum1 (t := 0) (n := s1.2.2.2.2 o2 (i.toNat % 1000)) (sum1 (t := 2) (n := n1) hd)
              exact Nat.le_trans this (show dep + cat 2 + cat 0 ≤ dep + 2 from Nat.le_refl _)) d2 (by rw [c2]; exact h7)
            have h9 := at_Get (i := i.toNat % 1000000) (sa := (2, n1) :: sa) k1 k2 k3 k4 k5 k6.1 k13 k6.2.1 k7 k8 (hx_tr hh A1) hz (fun z => absurd z c6) hq3 (by rw [hmod, c3]; exact h8)
            refine A3 hd d1 ?_
            rw [c1]
            exact at_Dup k1 k2 k3 (Or.inr rfl) hq2 h9
          · cases he
        · cases he
      · cases hc
    · cases hc
  · cases hc

theorem sn_55 (K : Kx p l e R s m args below meth c Q G st H0 hE cd cc nm own ini nL rt d cl F rv hF) (i : Int) (a b c0 : xT) (ha : Snd p l e R s m args below meth c Q G st H0 hE cd own ini nL rt cl F rv hF a) (hb : Snd p l e R s m args below meth c Q G st H0 hE cd own ini nL rt cl F rv hF b) (hc0 : Snd p l e R s m args below meth c Q G st H0 hE cd own ini nL rt cl F rv hF c0) (va : kcl (tagT a) = 0) (vb : kcl (tagT b) = 0) (vc : kcl (tagT c0) = 0) : Snd p l e R s m args below meth c Q G st H0 hE cd own ini nL rt cl F rv hF (n3 55 i a b c0) := by
  obtain ⟨k1, k2, k3, k4, k5, k6, k7, k8, k9, k10, k11, k12, k13, k14, k15, k16, k17, k18, k19, k20, ⟨k21, k21'⟩, k22, k23, k24, k25⟩ := K
  intro pc brk cnt dep sa g x ctl vs x' p1 p2 hc he hL hh
  simp only [ck] at hc
  simp only [ev] at he
  split at hc
  · rename_i q1 q1' hca
    split at hc
    · rename_i q2 q2' hcb
      split at hc
      · rename_i q4 hq4
        obtain ⟨q3, hq3, hq4⟩ := bn_e hq4
        split at hc
        · rename_i q5 q5' hcc
          obtain ⟨⟨c1, c2, c3, c4⟩, hc⟩ := if_some hc
          have hc := mp_e hc
          obtain ⟨q6, hq6, hq7⟩ := bn_e hc
          obtain ⟨n1, s1, ea, he⟩ := xb_e he
          obtain ⟨n2, s2, eb, he⟩ := xb_e he
          split at he
          · rename_i o q hz
            obtain ⟨n3', s3, ec, he⟩ := xb_e he
            split at he
            · rename_i w o2 hw hz2
              obtain ⟨f1, he⟩ := if_some he
              cases he
              obtain ⟨A1, A2, A3⟩ := ha _ _ _ _ sa _ _ _ _ _ _ _ hca ea hL hh
              obtain ⟨B1, B2, B3⟩ := hb _ _ _ _ ((tyT pft pmk a, n1) :: sa) _ _ _ _ _ _ _ hcb eb A2 (hx_tr hh A1)
              obtain ⟨C1, C2, C3⟩ := hc0 _ _ _ _ ((0, s2.2.2.2.2 o q) :: (0, n2) :: (2, n1) :: sa) _ _ _ _ _ _ _ hcc ec B2 (hx_tr hh (hx_tr A1 B1))
              simp only [Concl, va, vb, vc] at A3 B3 C3
              have N1 := hx_put s3.2 o q w
              refine ⟨hx_tr A1 (hx_tr B1 (hx_tr C1 N1)), C2, fun hd hbd hk => ?_⟩
              have d3 := bd k9 (hx_tr hh (hx_tr A1 (hx_tr B1 C1))) N1 hbd
              have d2 := bd k9 (hx_tr hh (hx_tr A1 B1)) C1 d3
              have d1 := bd k9 (hx_tr hh A1) B1 d2
              have ho2 : o2 = (o, q) := by
                obtain ⟨o3, q3⟩ := o2
                have e1 := xat_e hz
                have e2 := xat_e hz2
                have : o3 = o := by omega
                have : q3 = q := by omega
                subst_vars
                rfl
              subst ho2
              have hk2 : At p l e R s m args below meth c Q G st H0 hE cd p1 (s3.1, hput s3.2 o q (xnar 0 w)) sa := hk
              have h6 := at_Ast (kd := 0) k1 k2 k3 k6.1 (by decide) hz2 f1 hq7 hk2
              have h11 : i.toNat < 11 := by omega
              have h7 : At p l e R s m args below meth c Q G st H0 hE cd q5 s3 ((0, n3') :: (0, s2.2.2.2.2 o q) :: (0, n2) :: (2, n1) :: sa) := by
                have := at_Bin (op := i.toNat) (sa := (0, n2) :: (2, n1) :: sa) k1 k2 k3 (by omega) hw hq6 (by rw [if_pos h11]; exact h6)
                rw [if_pos h11] at this
                exact this
              have h8 : At p l e R s m args below meth c Q G st H0 hE cd q4 s2 ((0, s2.2.2.2.2 o q) :: (0, n2) :: (2, n1) :: sa) := C3 (by
                have := sum1 (t := 0) (n := s2.2.2.2.2 o q) (sum1 (t := 0) (n := n2) (sum1 (t := 2) (n := n1) hd))
                exact Nat.le_trans this (show dep + cat 2 + cat 0 + cat 0 ≤ dep + 3 from Nat.le_refl _)) d3 (by rw [c3]; exact h7)
              have h9 := at_Ald (kd := 0) (sa := (0, n2) :: (2, n1) :: sa) k1 k2 k3 k6.1 k6.2.2.1 k8 (hx_tr hh (hx_tr A1 B1)) (by decide) hz hq4 h8
              have h10 := at_Dup2 k1 k2 k3 hq3 h9
              refine A3 hd d1 (B3 (by rw [c1]; exact sum1 hd) d2 ?_)
              rw [c1, c2]
              exact h10
            · cases he
          · cases he
        · cases hc
      · cases hc
    · cases hc
  · cases hc
theorem sn_56 (K : Kx p l e R s m args below meth c Q G st H0 hE cd cc nm own ini nL rt d cl F rv hF) (i : Int) (a b : xT) : Snd p l e R s m args below meth c Q G st H0 hE cd own ini nL rt cl F rv hF (nd 56 i a b) := by
  obtain ⟨k1, k2, k3, k4, k5, k6, k7, k8, k9, k10, k11, k12, k13, k14, k15, k16, k17, k18, k19, k20, ⟨k21, k21'⟩, k22, k23, k24, k25⟩ := K
  intro pc brk cnt dep sa g x ctl vs x' p1 p2 hc he hL hh
  simp only [ck] at hc
  simp only [ev] at he
  split at he
  · rename_i n hg
    obtain ⟨f1, he⟩ := if_some he
    cases he
    split at hc
    · rename_i q hq
      obtain ⟨q1, hq1, hq⟩ := bn_e hq
      obtain ⟨⟨c1, c2⟩, hc⟩ := if_some hc
      rw [hq1] at hc
      cases hc
      refine ⟨hx_rf, hL, fun hd hbd hk => ?_⟩
      refine at_Ld k1 k2 k3 hg hq1 ?_
      exact at_Obj k1 k2 k3 k4 k18 (by rw [hL]; exact k10) (by omega) (by omega) hq c1 ⟨n.toNat, by omega⟩ hk
    · cases hc
  · cases he
theorem sn_59 (K : Kx p l e R s m args below meth c Q G st H0 hE cd cc nm own ini nL rt d cl F rv hF) (i : Int) (a b : xT) (hb : Snd p l e R s m args below meth c Q G st H0 hE cd own ini nL rt cl F rv hF b) (vb : kcl (tagT b) = 3) : Snd p l e R s m args below meth c Q G st H0 hE cd own ini nL rt cl F rv hF (nd 59 i a b) := by
  obtain ⟨k1, k2, k3, k4, k5, k6, k7, k8, k9, k10, k11, k12, k13, k14, k15, k16, k17, k18, k19, k20, ⟨k21, k21'⟩, k22, k23, k24, k25⟩ := K
  intro pc brk cnt dep sa g x ctl vs x' p1 p2 hc he hL hh
  simp only [ck] at hc
  simp only [ev] at he
  split at hc
  · rename_i q1 q1' hcb
    obtain ⟨⟨c1, c2⟩, hc⟩ := if_some hc
    split at hc
    · rename_i q heq
      obtain ⟨c3, hc⟩ := if_some hc
      cases hc
      obtain ⟨ws, s1, eb, he⟩ := xa_e he
      split at he
      · rename_i src sp dst dp n
        split at he
        · rename_i h' hz
          cases he
          obtain ⟨B1, B2, B3⟩ := hb _ _ _ _ sa _ _ _ _ _ _ _ hcb eb hL hh
          simp only [Concl, vb] at B3
          have N1 : hx s1.2 h' := by
            unfold xcopy at hz
            obtain ⟨-, hz⟩ := if_some hz
            cases hz
            exact hx_row _ _ _
          refine ⟨hx_tr B1 N1, B2, fun hd hbd hk => B3 hd (bd k9 (hx_tr hh B1) N1 hbd) ?_⟩
          rw [c1]
          exact at_Copy (sa := sa) k1 k2 k3 k4 k6.1 k20 (by rw [B2]; exact k10) (by omega) (by omega) hz heq c3 hk
        · cases he
      · cases he
    · cases hc
  · cases hc
theorem sn_60 (K : Kx p l e R s m args below meth c Q G st H0 hE cd cc nm own ini nL rt d cl F rv hF) (i : Int) (a b : xT) (hb : Snd p l e R s m args below meth c Q G st H0 hE cd own ini nL rt cl F rv hF b) (vb : kcl (tagT b) = 3) : Snd p l e R s m args below meth c Q G st H0 hE cd own ini nL rt cl F rv hF (nd 60 i a b) := by
  obtain ⟨k1, k2, k3, k4, k5, k6, k7, k8, k9, k10, k11, k12, k13, k14, k15, k16, k17, k18, k19, k20, ⟨k21, k21'⟩, k22, k23, k24, k25⟩ := K
  intro pc brk cnt dep sa g x ctl vs x' p1 p2 hc he hL hh
  simp only [ck] at hc
  simp only [ev] at he
  split at hc
  · rename_i q1 q1' hcb
    obtain ⟨⟨c1, c2⟩, hc⟩ := if_some hc
    split at hc
    · rename_i q heq
      obtain ⟨c3, hc⟩ := if_some hc
      cases hc
      obtain ⟨ws, s1, eb, he⟩ := xa_e he
      split at he
      · rename_i src sp dst dp n
        split at he
        · rename_i h' hz
          cases he
          obtain ⟨B1, B2, B3⟩ := hb _ _ _ _ sa _ _ _ _ _ _ _ hcb eb hL hh
          simp only [Concl, vb] at B3
          have N1 : hx s1.2 h' := by
            unfold xcopyB at hz
            obtain ⟨-, hz⟩ := if_some hz
            cases hz
            exact hx_row _ _ _
          refine ⟨hx_tr B1 N1, B2, fun hd hbd hk => B3 hd (bd k9 (hx_tr hh B1) N1 hbd) ?_⟩
          rw [c1]
          exact at_CopyB (sa := sa) k1 k2 k3 k4 k6.1 k20 (by rw [B2]; exact k10) (by omega) (by omega) k6.2.2.1 k8 (hx_tr hh B1) hz heq c3 hk
        · cases he
      · cases he
    · cases hc
  · cases hc

end Sound4
