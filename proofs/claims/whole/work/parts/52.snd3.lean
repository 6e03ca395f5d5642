/-! SOUNDNESS, further nodes -/
section Sound3
variable {p : Program} {l : Launch} {e : Env} {R : Room} {s : State} {m : MethodId} {args : Array Value} {below : List Frame} {meth : Method} {c : Code} {Q : State → Prop}
variable {G : xG} {st : xStt} {H0 : Heap} {hE : xH} {cd : xC} {cc : ByteArray} {nm : String} {own : Nat} {ini : Bool} {nL rt d : Nat} {cl : Nat → List Int → xH → Option (List Int × xH)} {F : Nat} {rv : List Int} {hF : xH}

theorem A_eqv {A : Nat → xS → xL → Prop} (hA : ∀ q q' x sa, nrm cd 9 q = nrm cd 9 q' → A q x sa → A q' x sa) : True := trivial
/-- places that jumps alone part are one -/
theorem At_eqv {q q' : Nat} {x : xS} {sa : xL} (h : eqv cd q q' = true) (hk : At p l e R s m args below meth c Q G st H0 hE cd q x sa) : At p l e R s m args below meth c Q G st H0 hE cd q' x sa := by
  have h1 := eqv_e h
  intro H ls locs vs g1 g2 g3 g4
  rw [← h1]
  exact hk H ls locs vs g1 g2 g3 g4
theorem eqv_sym {q q' : Nat} (h : eqv cd q q' = true) : eqv cd q' q = true := by
  have := eqv_e h
  simp [eqv, this]
theorem SK_mono {q q' brk cnt : Nat} {sa : xL} {ctl : Nat} {vs : List Int} {x' : xS} (h : ctl = 0 → At p l e R s m args below meth c Q G st H0 hE cd q x' sa → At p l e R s m args below meth c Q G st H0 hE cd q' x' sa) (hk : SK (At p l e R s m args below meth c Q G st H0 hE cd) rv hF q brk cnt sa ctl vs x') : SK (At p l e R s m args below meth c Q G st H0 hE cd) rv hF q' brk cnt sa ctl vs x' := by
  match ctl, hk with
  | 0, hk => exact h rfl hk
  | 1, hk => exact hk
  | 2, hk => exact hk
  | 3, hk => exact hk
  | k + 4, hk => exact hk.elim
theorem sn_23 (K : Kx p l e R s m args below meth c Q G st H0 hE cd cc nm own ini nL rt d cl F rv hF) (i : Int) (a b : xT) (ha : Snd p l e R s m args below meth c Q G st H0 hE cd own ini nL rt cl F rv hF a) (hb : Snd p l e R s m args below meth c Q G st H0 hE cd own ini nL rt cl F rv hF b) (va : kcl (tagT a) = 1) (vb : kcl (tagT b) = 1) : Snd p l e R s m args below meth c Q G st H0 hE cd own ini nL rt cl F rv hF (nd 23 i a b) := by
  obtain ⟨k1, k2, k3, k4, k5, k6, k7, k8, k9, k10, k11, k12, k13, k14, k15, k16, k17, k18, k19, k20, ⟨k21, k21'⟩, k22, k23, k24, k25⟩ := K
  intro pc brk cnt dep sa g x ctl vs x' p1 p2 hc he hL hh
  simp only [ck] at hc
  simp only [ev] at he
  split at hc
  · rename_i t f hca
    split at hc
    · rename_i t2 f2 hcb
      obtain ⟨c1, hc⟩ := if_some hc
      cases hc
      obtain ⟨n1, s1, ea, he⟩ := xb_e he
      obtain ⟨A1, A2, A3⟩ := ha _ _ _ _ sa _ _ _ _ _ _ _ hca ea hL hh
      simp only [Concl, va] at A3
      split at he
      · rename_i h1
        obtain ⟨B1, B2, B3⟩ := hb _ _ _ _ sa _ _ _ _ _ _ _ hcb he A2 (hx_tr hh A1)
        simp only [Concl, vb] at B3
        refine ⟨hx_tr A1 B1, B2, fun hd hbd => ?_⟩
        intro n hn hk
        refine A3 hd (bd k9 (hx_tr hh A1) B1 hbd) n1 rfl ?_
        rw [if_pos h1]
        exact B3 hd hbd n hn hk
      · rename_i h1
        cases he
        refine ⟨A1, A2, fun hd hbd => ?_⟩
        intro n hn hk
        cases hn
        refine A3 hd hbd n1 rfl ?_
        rw [if_neg h1]
        exact At_eqv (eqv_sym c1) hk
    · cases hc
  · cases hc
theorem sn_24 (K : Kx p l e R s m args below meth c Q G st H0 hE cd cc nm own ini nL rt d cl F rv hF) (i : Int) (a b : xT) (ha : Snd p l e R s m args below meth c Q G st H0 hE cd own ini nL rt cl F rv hF a) (hb : Snd p l e R s m args below meth c Q G st H0 hE cd own ini nL rt cl F rv hF b) (va : kcl (tagT a) = 1) (vb : kcl (tagT b) = 1) : Snd p l e R s m args below meth c Q G st H0 hE cd own ini nL rt cl F rv hF (nd 24 i a b) := by
  obtain ⟨k1, k2, k3, k4, k5, k6, k7, k8, k9, k10, k11, k12, k13, k14, k15, k16, k17, k18, k19, k20, ⟨k21, k21'⟩, k22, k23, k24, k25⟩ := K
  intro pc brk cnt dep sa g x ctl vs x' p1 p2 hc he hL hh
  simp only [ck] at hc
  simp only [ev] at he
  split at hc
  · rename_i t f hca
    split at hc
    · rename_i t2 f2 hcb
      obtain ⟨c1, hc⟩ := if_some hc
      cases hc
      obtain ⟨n1, s1, ea, he⟩ := xb_e he
      obtain ⟨A1, A2, A3⟩ := ha _ _ _ _ sa _ _ _ _ _ _ _ hca ea hL hh
      simp only [Concl, va] at A3
      split at he
      · rename_i h1
        cases he
        refine ⟨A1, A2, fun hd hbd => ?_⟩
        intro n hn hk
        cases hn
        refine A3 hd hbd n1 rfl ?_
        rw [if_pos h1]
        exact At_eqv (eqv_sym c1) hk
      · rename_i h1
        obtain ⟨B1, B2, B3⟩ := hb _ _ _ _ sa _ _ _ _ _ _ _ hcb he A2 (hx_tr hh A1)
        simp only [Concl, vb] at B3
        refine ⟨hx_tr A1 B1, B2, fun hd hbd => ?_⟩
        intro n hn hk
        refine A3 hd (bd k9 (hx_tr hh A1) B1 hbd) n1 rfl ?_
        rw [if_neg h1]
        exact B3 hd hbd n hn hk
    · cases hc
  · cases hc
theorem sn_25 (i : Int) (a b : xT) (ha : Snd p l e R s m args below meth c Q G st H0 hE cd own ini nL rt cl F rv hF a) (va : kcl (tagT a) = 1) : Snd p l e R s m args below meth c Q G st H0 hE cd own ini nL rt cl F rv hF (nd 25 i a b) := by
  intro pc brk cnt dep sa g x ctl vs x' p1 p2 hc he hL hh
  simp only [ck] at hc
  simp only [ev] at he
  split at hc
  · rename_i t f hca
    cases hc
    obtain ⟨n1, s1, ea, he⟩ := xb_e he
    cases he
    obtain ⟨A1, A2, A3⟩ := ha _ _ _ _ sa _ _ _ _ _ _ _ hca ea hL hh
    simp only [Concl, va] at A3
    refine ⟨A1, A2, fun hd hbd => ?_⟩
    intro n hn hk
    cases hn
    refine A3 hd hbd n1 rfl ?_
    by_cases h1 : n1 = 1
    · simpa [h1] using hk
    · simpa [h1] using hk
  · cases hc
theorem sn_9 (K : Kx p l e R s m args below meth c Q G st H0 hE cd cc nm own ini nL rt d cl F rv hF) (i : Int) (a b c0 : xT) (ha : Snd p l e R s m args below meth c Q G st H0 hE cd own ini nL rt cl F rv hF a) (hb : Snd p l e R s m args below meth c Q G st H0 hE cd own ini nL rt cl F rv hF b) (hc0 : Snd p l e R s m args below meth c Q G st H0 hE cd own ini nL rt cl F rv hF c0) (va : kcl (tagT a) = 1) (vb : kcl (tagT b) = 0) (vc : kcl (tagT c0) = 0) : Snd p l e R s m args below meth c Q G st H0 hE cd own ini nL rt cl F rv hF (n3 9 i a b c0) := by
  obtain ⟨k1, k2, k3, k4, k5, k6, k7, k8, k9, k10, k11, k12, k13, k14, k15, k16, k17, k18, k19, k20, ⟨k21, k21'⟩, k22, k23, k24, k25⟩ := K
  intro pc brk cnt dep sa g x ctl vs x' p1 p2 hc he hL hh
  simp only [ck] at hc
  simp only [ev] at he
  split at hc
  · rename_i t f hca
    split at hc
    · rename_i q1 q1' q2 q2' hcb hcc
      obtain ⟨c1, hc⟩ := if_some hc
      cases hc
      simp only [Bool.and_eq_true, beq_iff_eq, bne_iff_ne] at c1
      obtain ⟨⟨c1, c2⟩, c3⟩ := c1
      obtain ⟨n1, s1, ea, he⟩ := xb_e he
      obtain ⟨A1, A2, A3⟩ := ha _ _ _ _ sa _ _ _ _ _ _ _ hca ea hL hh
      simp only [Concl, va] at A3
      have hty : tyT pft pmk (n3 9 i a b c0) = tyT pft pmk b := by simp only [tyT]
      split at he
      · rename_i h1
        obtain ⟨B1, B2, B3⟩ := hb _ _ _ _ sa _ _ _ _ _ _ _ hcb he A2 (hx_tr hh A1)
        simp only [Concl, vb] at B3
        refine ⟨hx_tr A1 B1, B2, fun hd hbd hk => A3 hd (bd k9 (hx_tr hh A1) B1 hbd) n1 rfl ?_⟩
        rw [if_pos h1]
        rw [hty] at hk
        exact B3 hd hbd (At_eqv (eqv_sym c1) hk)
      · rename_i h1
        obtain ⟨B1, B2, B3⟩ := hc0 _ _ _ _ sa _ _ _ _ _ _ _ hcc he A2 (hx_tr hh A1)
        simp only [Concl, vc] at B3
        refine ⟨hx_tr A1 B1, B2, fun hd hbd hk => A3 hd (bd k9 (hx_tr hh A1) B1 hbd) n1 rfl ?_⟩
        rw [if_neg h1]
        rw [hty, c2] at hk
        exact B3 hd hbd hk
    · cases hc
  · cases hc
theorem sn_35 (K : Kx p l e R s m args below meth c Q G st H0 hE cd cc nm own ini nL rt d cl F rv hF) (i : Int) (a b c0 : xT) (ha : Snd p l e R s m args below meth c Q G st H0 hE cd own ini nL rt cl F rv hF a) (hb : Snd p l e R s m args below meth c Q G st H0 hE cd own ini nL rt cl F rv hF b) (hc0 : Snd p l e R s m args below meth c Q G st H0 hE cd own ini nL rt cl F rv hF c0) (va : kcl (tagT a) = 0) (vb : kcl (tagT b) = 0) (vc : kcl (tagT c0) = 0) : Snd p l e R s m args below meth c Q G st H0 hE cd own ini nL rt cl F rv hF (n3 35 i a b c0) := by
  obtain ⟨k1, k2, k3, k4, k5, k6, k7, k8, k9, k10, k11, k12, k13, k14, k15, k16, k17, k18, k19, k20, ⟨k21, k21'⟩, k22, k23, k24, k25⟩ := K
  intro pc brk cnt dep sa g x ctl vs x' p1 p2 hc he hL hh
  simp only [ck] at hc
  simp only [ev] at he
  split at hc
  · rename_i q1 q1' hca
    split at hc
    · rename_i q2 q2' hcb
      split at hc
      · rename_i q3 q3' hcc
        obtain ⟨⟨c1, c2, c3, c4⟩, hc⟩ := if_some hc
        have hq := mp_e hc
        obtain ⟨n1, s1, ea, he⟩ := xb_e he
        obtain ⟨n2, s2, eb, he⟩ := xb_e he
        obtain ⟨n3', s3, ec, he⟩ := xb_e he
        split at he
        · rename_i o q hz
          obtain ⟨f1, he⟩ := if_some he
          cases he
          obtain ⟨A1, A2, A3⟩ := ha _ _ _ _ sa _ _ _ _ _ _ _ hca ea hL hh
          obtain ⟨B1, B2, B3⟩ := hb _ _ _ _ ((tyT pft pmk a, n1) :: sa) _ _ _ _ _ _ _ hcb eb A2 (hx_tr hh A1)
          obtain ⟨C1, C2, C3⟩ := hc0 _ _ _ _ ((tyT pft pmk b, n2) :: (tyT pft pmk a, n1) :: sa) _ _ _ _ _ _ _ hcc ec B2 (hx_tr hh (hx_tr A1 B1))
          simp only [Concl, va, vb, vc] at A3 B3 C3
          have N1 := hx_put s3.2 o q (xnar i.toNat n3')
          refine ⟨hx_tr A1 (hx_tr B1 (hx_tr C1 N1)), C2, fun hd hbd hk => ?_⟩
          have d3 := bd k9 (hx_tr hh (hx_tr A1 (hx_tr B1 C1))) N1 hbd
          have d2 := bd k9 (hx_tr hh (hx_tr A1 B1)) C1 d3
          have d1 := bd k9 (hx_tr hh A1) B1 d2
          refine A3 hd d1 (B3 (by rw [c1]; exact sum1 hd) d2 (C3 (by rw [c1, c2]; exact sum1 (sum1 hd)) d3 ?_))
          have hk2 : At p l e R s m args below meth c Q G st H0 hE cd p1 (s3.1, hput s3.2 o q (xnar i.toNat n3')) sa := hk
          have := at_Ast k1 k2 k3 k6.1 c4 hz f1 hq hk2
          rw [c1, c2, c3]
          exact this
        · cases he
      · cases hc
    · cases hc
  · cases hc

theorem sn_38 (K : Kx p l e R s m args below meth c Q G st H0 hE cd cc nm own ini nL rt d cl F rv hF) (i : Int) (a b : xT) (ha : Snd p l e R s m args below meth c Q G st H0 hE cd own ini nL rt cl F rv hF a) (hb : Snd p l e R s m args below meth c Q G st H0 hE cd own ini nL rt cl F rv hF b) (va : kcl (tagT a) = 1) (vb : kcl (tagT b) = 2) : Snd p l e R s m args below meth c Q G st H0 hE cd own ini nL rt cl F rv hF (nd 38 i a b) := by
  obtain ⟨k1, k2, k3, k4, k5, k6, k7, k8, k9, k10, k11, k12, k13, k14, k15, k16, k17, k18, k19, k20, ⟨k21, k21'⟩, k22, k23, k24, k25⟩ := K
  intro pc brk cnt dep sa g x ctl vs x' p1 p2 hc he hL hh
  simp only [ck] at hc
  simp only [ev] at he
  split at hc
  · rename_i t f hca
    split at hc
    · rename_i q1 q1' hcb
      obtain ⟨c1, hc⟩ := if_some hc
      cases hc
      obtain ⟨n1, s1, ea, he⟩ := xb_e he
      obtain ⟨A1, A2, A3⟩ := ha _ _ _ _ sa _ _ _ _ _ _ _ hca ea hL hh
      simp only [Concl, va] at A3
      split at he
      · rename_i h1
        obtain ⟨B1, B2, B3⟩ := hb _ _ _ _ sa _ _ _ _ _ _ _ hcb he A2 (hx_tr hh A1)
        simp only [Concl, vb] at B3
        refine ⟨hx_tr A1 B1, B2, fun hd hbd hk => A3 hd (bd k9 (hx_tr hh A1) B1 hbd) n1 rfl ?_⟩
        rw [if_pos h1]
        exact B3 hd hbd (SK_mono (fun _ z => At_eqv (eqv_sym c1) z) hk)
      · rename_i h1
        cases he
        refine ⟨A1, A2, fun hd hbd hk => A3 hd hbd n1 rfl ?_⟩
        rw [if_neg h1]
        exact hk
    · cases hc
  · cases hc

theorem sn_27 (K : Kx p l e R s m args below meth c Q G st H0 hE cd cc nm own ini nL rt d cl F rv hF) (i : Int) (a b : xT) (ha : Snd p l e R s m args below meth c Q G st H0 hE cd own ini nL rt cl F rv hF a) (hb : Snd p l e R s m args below meth c Q G st H0 hE cd own ini nL rt cl F rv hF b) (va : kcl (tagT a) = 1) (vb : kcl (tagT b) = 2) : Snd p l e R s m args below meth c Q G st H0 hE cd own ini nL rt cl F rv hF (nd 27 i a b) := by
  obtain ⟨k1, k2, k3, k4, k5, k6, k7, k8, k9, k10, k11, k12, k13, k14, k15, k16, k17, k18, k19, k20, ⟨k21, k21'⟩, k22, k23, k24, k25⟩ := K
  intro pc brk cnt dep sa g x ctl vs x' p1 p2 hc he hL hh
  simp only [ck] at hc
  simp only [ev] at he
  split at hc
  · rename_i t f hca
    split at hc
    · rename_i q1 q1' hcb
      cases hc
      obtain ⟨n1, s1, ea, he⟩ := xb_e he
      obtain ⟨A1, A2, A3⟩ := ha _ _ _ _ sa _ _ _ _ _ _ _ hca ea hL hh
      simp only [Concl, va] at A3
      split at he
      · rename_i h1
        split at he
        · cases he
        rename_i hno
        obtain ⟨B1, B2, B3⟩ := hb _ _ _ _ sa _ _ _ _ _ _ _ hcb he A2 (hx_tr hh A1)
        simp only [Concl, vb] at B3
        refine ⟨hx_tr A1 B1, B2, fun hd hbd hk => A3 hd (bd k9 (hx_tr hh A1) B1 hbd) n1 rfl ?_⟩
        rw [if_pos h1]
        exact B3 hd hbd (SK_mono (fun z _ => by subst z; exact absurd he (hno _ _)) hk)
      · rename_i h1
        cases he
        refine ⟨A1, A2, fun hd hbd hk => A3 hd hbd n1 rfl ?_⟩
        rw [if_neg h1]
        exact hk
    · cases hc
  · cases hc

theorem sn_39 (K : Kx p l e R s m args below meth c Q G st H0 hE cd cc nm own ini nL rt d cl F rv hF) (i : Int) (a b c0 : xT) (ha : Snd p l e R s m args below meth c Q G st H0 hE cd own ini nL rt cl F rv hF a) (hb : Snd p l e R s m args below meth c Q G st H0 hE cd own ini nL rt cl F rv hF b) (hc0 : Snd p l e R s m args below meth c Q G st H0 hE cd own ini nL rt cl F rv hF c0) (va : kcl (tagT a) = 1) (vb : kcl (tagT b) = 2) (vc : kcl (tagT c0) = 2) : Snd p l e R s m args below meth c Q G st H0 hE cd own ini nL rt cl F rv hF (n3 39 i a b c0) := by
  obtain ⟨k1, k2, k3, k4, k5, k6, k7, k8, k9, k10, k11, k12, k13, k14, k15, k16, k17, k18, k19, k20, ⟨k21, k21'⟩, k22, k23, k24, k25⟩ := K
  intro pc brk cnt dep sa g x ctl vs x' p1 p2 hc he hL hh
  simp only [ck] at hc
  simp only [ev] at he
  split at hc
  · rename_i t f hca
    split at hc
    · rename_i q1 q1' q2 q2' hcb hcc
      obtain ⟨c1, hc⟩ := if_some hc
      cases hc
      obtain ⟨n1, s1, ea, he⟩ := xb_e he
      obtain ⟨A1, A2, A3⟩ := ha _ _ _ _ sa _ _ _ _ _ _ _ hca ea hL hh
      simp only [Concl, va] at A3
      split at he
      · rename_i h1
        obtain ⟨B1, B2, B3⟩ := hb _ _ _ _ sa _ _ _ _ _ _ _ hcb he A2 (hx_tr hh A1)
        simp only [Concl, vb] at B3
        refine ⟨hx_tr A1 B1, B2, fun hd hbd hk => A3 hd (bd k9 (hx_tr hh A1) B1 hbd) n1 rfl ?_⟩
        rw [if_pos h1]
        exact B3 hd hbd (SK_mono (fun _ z => At_eqv (eqv_sym c1) z) hk)
      · rename_i h1
        obtain ⟨B1, B2, B3⟩ := hc0 _ _ _ _ sa _ _ _ _ _ _ _ hcc he A2 (hx_tr hh A1)
        simp only [Concl, vc] at B3
        refine ⟨hx_tr A1 B1, B2, fun hd hbd hk => A3 hd (bd k9 (hx_tr hh A1) B1 hbd) n1 rfl ?_⟩
        rw [if_neg h1]
        exact B3 hd hbd hk
    · cases hc
  · cases hc

theorem sn_40 (K : Kx p l e R s m args below meth c Q G st H0 hE cd cc nm own ini nL rt d cl F rv hF) (i : Int) (a b c0 : xT) (ha : Snd p l e R s m args below meth c Q G st H0 hE cd own ini nL rt cl F rv hF a) (hb : Snd p l e R s m args below meth c Q G st H0 hE cd own ini nL rt cl F rv hF b) (hc0 : Snd p l e R s m args below meth c Q G st H0 hE cd own ini nL rt cl F rv hF c0) (va : kcl (tagT a) = 1) (vb : kcl (tagT b) = 2) (vc : kcl (tagT c0) = 2) : Snd p l e R s m args below meth c Q G st H0 hE cd own ini nL rt cl F rv hF (n3 40 i a b c0) := by
  obtain ⟨k1, k2, k3, k4, k5, k6, k7, k8, k9, k10, k11, k12, k13, k14, k15, k16, k17, k18, k19, k20, ⟨k21, k21'⟩, k22, k23, k24, k25⟩ := K
  intro pc brk cnt dep sa g x ctl vs x' p1 p2 hc he hL hh
  simp only [ck] at hc
  simp only [ev] at he
  split at hc
  · rename_i t f hca
    split at hc
    · rename_i q1 q1' q2 q2' hcb hcc
      cases hc
      obtain ⟨n1, s1, ea, he⟩ := xb_e he
      obtain ⟨A1, A2, A3⟩ := ha _ _ _ _ sa _ _ _ _ _ _ _ hca ea hL hh
      simp only [Concl, va] at A3
      split at he
      · rename_i h1
        split at he
        · cases he
        rename_i hno
        obtain ⟨B1, B2, B3⟩ := hb _ _ _ _ sa _ _ _ _ _ _ _ hcb he A2 (hx_tr hh A1)
        simp only [Concl, vb] at B3
        refine ⟨hx_tr A1 B1, B2, fun hd hbd hk => A3 hd (bd k9 (hx_tr hh A1) B1 hbd) n1 rfl ?_⟩
        rw [if_pos h1]
        exact B3 hd hbd (SK_mono (fun z _ => by subst z; exact absurd he (hno _ _)) hk)
      · rename_i h1
        obtain ⟨B1, B2, B3⟩ := hc0 _ _ _ _ sa _ _ _ _ _ _ _ hcc he A2 (hx_tr hh A1)
        simp only [Concl, vc] at B3
        refine ⟨hx_tr A1 B1, B2, fun hd hbd hk => A3 hd (bd k9 (hx_tr hh A1) B1 hbd) n1 rfl ?_⟩
        rw [if_neg h1]
        exact B3 hd hbd hk
    · cases hc
  · cases hc

theorem sn_28 (K : Kx p l e R s m args below meth c Q G st H0 hE cd cc nm own ini nL rt d cl F rv hF) (i : Int) (a b c0 : xT) (ha : Snd p l e R s m args below meth c Q G st H0 hE cd own ini nL rt cl F rv hF a) (hb : Snd p l e R s m args below meth c Q G st H0 hE cd own ini nL rt cl F rv hF b) (hc0 : Snd p l e R s m args below meth c Q G st H0 hE cd own ini nL rt cl F rv hF c0) (va : kcl (tagT a) = 1) (vb : kcl (tagT b) = 2) (vc : kcl (tagT c0) = 2) : Snd p l e R s m args below meth c Q G st H0 hE cd own ini nL rt cl F rv hF (n3 28 i a b c0) := by
  obtain ⟨k1, k2, k3, k4, k5, k6, k7, k8, k9, k10, k11, k12, k13, k14, k15, k16, k17, k18, k19, k20, ⟨k21, k21'⟩, k22, k23, k24, k25⟩ := K
  intro pc brk cnt dep sa g x ctl vs x' p1 p2 hc he hL hh
  simp only [ck] at hc
  simp only [ev] at he
  split at hc
  · rename_i t f hca
    split at hc
    · rename_i q1 q1' q2 q2' hcb hcc
      cases hc
      obtain ⟨n1, s1, ea, he⟩ := xb_e he
      obtain ⟨A1, A2, A3⟩ := ha _ _ _ _ sa _ _ _ _ _ _ _ hca ea hL hh
      simp only [Concl, va] at A3
      split at he
      · rename_i h1
        obtain ⟨B1, B2, B3⟩ := hb _ _ _ _ sa _ _ _ _ _ _ _ hcb he A2 (hx_tr hh A1)
        simp only [Concl, vb] at B3
        refine ⟨hx_tr A1 B1, B2, fun hd hbd hk => A3 hd (bd k9 (hx_tr hh A1) B1 hbd) n1 rfl ?_⟩
        rw [if_pos h1]
        exact B3 hd hbd hk
      · rename_i h1
        split at he
        · cases he
        rename_i hno
        obtain ⟨B1, B2, B3⟩ := hc0 _ _ _ _ sa _ _ _ _ _ _ _ hcc he A2 (hx_tr hh A1)
        simp only [Concl, vc] at B3
        refine ⟨hx_tr A1 B1, B2, fun hd hbd hk => A3 hd (bd k9 (hx_tr hh A1) B1 hbd) n1 rfl ?_⟩
        rw [if_neg h1]
        exact B3 hd hbd (SK_mono (fun z _ => by subst z; exact absurd he (hno _ _)) hk)
    · cases hc
  · cases hc

theorem sn_30 (i : Int) (a b : xT) : Snd p l e R s m args below meth c Q G st H0 hE cd own ini nL rt cl F rv hF (nd 30 i a b) := by
  intro pc brk cnt dep sa g x ctl vs x' p1 p2 hc he hL hh
  simp only [ck] at hc
  simp only [ev] at he
  cases he
  cases hc
  exact ⟨hx_rf, hL, fun _ _ hk => hk⟩
theorem sn_31 (K : Kx p l e R s m args below meth c Q G st H0 hE cd cc nm own ini nL rt d cl F rv hF) (i : Int) (a b : xT) (ha : Snd p l e R s m args below meth c Q G st H0 hE cd own ini nL rt cl F rv hF a) (hb : Snd p l e R s m args below meth c Q G st H0 hE cd own ini nL rt cl F rv hF b) (va : kcl (tagT a) = 2) (vb : kcl (tagT b) = 2) : Snd p l e R s m args below meth c Q G st H0 hE cd own ini nL rt cl F rv hF (nd 31 i a b) := by
  obtain ⟨k1, k2, k3, k4, k5, k6, k7, k8, k9, k10, k11, k12, k13, k14, k15, k16, k17, k18, k19, k20, ⟨k21, k21'⟩, k22, k23, k24, k25⟩ := K
  intro pc brk cnt dep sa g x ctl vs x' p1 p2 hc he hL hh
  simp only [ck] at hc
  simp only [ev] at he
  split at hc
  · rename_i q1 q1' hca
    rcases xq_e he with ⟨ws, s1, ea, he⟩ | ⟨k, ws, s1, ea, hz⟩
    · obtain ⟨A1, A2, A3⟩ := ha _ _ _ _ sa _ _ _ _ _ _ _ hca ea hL hh
      obtain ⟨B1, B2, B3⟩ := hb _ _ _ _ sa _ _ _ _ _ _ _ hc he A2 (hx_tr hh A1)
      simp only [Concl, va, vb] at A3 B3
      exact ⟨hx_tr A1 B1, B2, fun hd hbd hk => A3 hd (bd k9 (hx_tr hh A1) B1 hbd) (B3 hd hbd hk)⟩
    · cases hz
      obtain ⟨A1, A2, A3⟩ := ha _ _ _ _ sa _ _ _ _ _ _ _ hca ea hL hh
      simp only [Concl, va] at A3
      exact ⟨A1, A2, fun hd hbd hk => A3 hd hbd (SK_mono (fun z => by cases z) hk)⟩
  · cases hc
theorem sn_32 (K : Kx p l e R s m args below meth c Q G st H0 hE cd cc nm own ini nL rt d cl F rv hF) (i : Int) (a b : xT) (hb : Snd p l e R s m args below meth c Q G st H0 hE cd own ini nL rt cl F rv hF b) (vb : kcl (tagT b) = 0) : Snd p l e R s m args below meth c Q G st H0 hE cd own ini nL rt cl F rv hF (nd 32 i a b) := by
  obtain ⟨k1, k2, k3, k4, k5, k6, k7, k8, k9, k10, k11, k12, k13, k14, k15, k16, k17, k18, k19, k20, ⟨k21, k21'⟩, k22, k23, k24, k25⟩ := K
  intro pc brk cnt dep sa g x ctl vs x' p1 p2 hc he hL hh
  simp only [ck] at hc
  simp only [ev] at he
  split at hc
  · rename_i q1 q1' hcb
    obtain ⟨c1, hc⟩ := if_some hc
    have hq := mp_e hc
    obtain ⟨n1, s1, eb, he⟩ := xb_e he
    obtain ⟨f1, he⟩ := if_some he
    cases he
    obtain ⟨B1, B2, B3⟩ := hb _ _ _ _ sa _ _ _ _ _ _ _ hcb eb hL hh
    simp only [Concl, vb] at B3
    refine ⟨B1, by rw [hx_len_lset]; exact B2, fun hd hbd hk => B3 hd hbd ?_⟩
    rw [c1]
    exact at_St k1 k2 k3 f1 hq hk
  · cases hc
theorem sn_33 (K : Kx p l e R s m args below meth c Q G st H0 hE cd cc nm own ini nL rt d cl F rv hF) (i : Int) (a b : xT) : Snd p l e R s m args below meth c Q G st H0 hE cd own ini nL rt cl F rv hF (nd 33 i a b) := by
  obtain ⟨k1, k2, k3, k4, k5, k6, k7, k8, k9, k10, k11, k12, k13, k14, k15, k16, k17, k18, k19, k20, ⟨k21, k21'⟩, k22, k23, k24, k25⟩ := K
  intro pc brk cnt dep sa g x ctl vs x' p1 p2 hc he hL hh
  simp only [ck] at hc
  simp only [ev] at he
  split at hc
  · rename_i j n heq
    obtain ⟨⟨c1, c2, c3⟩, hc⟩ := if_some hc
    cases hc
    split at he
    · rename_i n1 hg
      cases he
      refine ⟨hx_rf, by rw [hx_len_lset]; exact hL, fun hd hbd hk => ?_⟩
      subst c1
      subst c2
      exact at_Inc k1 k2 k3 hg heq hk (by omega)
    · cases he
  · cases hc
theorem sn_45 (i : Int) (a b : xT) : Snd p l e R s m args below meth c Q G st H0 hE cd own ini nL rt cl F rv hF (nd 45 i a b) := by
  intro pc brk cnt dep sa g x ctl vs x' p1 p2 hc he hL hh
  simp only [ck] at hc
  simp only [ev] at he
  cases he
  obtain ⟨c1, hc⟩ := if_some hc
  exact ⟨hx_rf, hL, fun _ _ hk => At_eqv (eqv_sym c1) hk⟩
theorem sn_46 (i : Int) (a b : xT) : Snd p l e R s m args below meth c Q G st H0 hE cd own ini nL rt cl F rv hF (nd 46 i a b) := by
  intro pc brk cnt dep sa g x ctl vs x' p1 p2 hc he hL hh
  simp only [ck] at hc
  simp only [ev] at he
  cases he
  obtain ⟨c1, hc⟩ := if_some hc
  exact ⟨hx_rf, hL, fun _ _ hk => At_eqv (eqv_sym c1) hk⟩
theorem SR_nil {r : Nat → Nat} {sa : xL} {vs : List Value} (h : SRv r sa vs) (hs : (sa.map fun a => cat a.1).sum ≤ 0) : vs = [] := by
  cases sa with
  | nil => cases vs with
    | nil => rfl
    | cons => exact h.elim
  | cons a t =>
    obtain ⟨v, w, rfl, h1, h2⟩ := SR_cons h
    simp only [List.map_cons, List.sum_cons] at hs
    have := rel_cat h1
    have := lv_cat v
    omega
theorem sn_47 (K : Kx p l e R s m args below meth c Q G st H0 hE cd cc nm own ini nL rt d cl F rv hF) (i : Int) (a b : xT) (hb : Snd p l e R s m args below meth c Q G st H0 hE cd own ini nL rt cl F rv hF b) (vb : kcl (tagT b) = 0) : Snd p l e R s m args below meth c Q G st H0 hE cd own ini nL rt cl F rv hF (nd 47 i a b) := by
  obtain ⟨k1, k2, k3, k4, k5, k6, k7, k8, k9, k10, k11, k12, k13, k14, k15, k16, k17, k18, k19, k20, ⟨k21, k21'⟩, k22, k23, k24, k25⟩ := K
  intro pc brk cnt dep sa g x ctl vs x' p1 p2 hc he hL hh
  simp only [ck] at hc
  simp only [ev] at he
  split at hc
  · rename_i q1 q1' hcb
    obtain ⟨⟨c1, c2, c3⟩, hc⟩ := if_some hc
    have hq := mp_e hc
    obtain ⟨n1, s1, eb, he⟩ := xb_e he
    cases he
    obtain ⟨B1, B2, B3⟩ := hb _ _ _ _ sa _ _ _ _ _ _ _ hcb eb hL hh
    simp only [Concl, vb] at B3
    refine ⟨B1, B2, fun hd hbd hk => B3 hd hbd ?_⟩
    obtain ⟨e1, e2⟩ := hk
    obtain ⟨hcd, -⟩ := ckO_e hq
    intro H ls locs vs g1 g2 g3 g4
    have hng : ∀ o, (match rty rt with
        | 1 => Instr.lreturn
        | 2 => .areturn
        | _ => .ireturn) ≠ .goto o := by
      intro o
      split <;> (intro q; cases q)
    rw [nrm_ng hcd hng 9]
    obtain ⟨v, w, rfl, r1, g5⟩ := SR_cons g4
    rw [c3] at hd
    have hw := SR_nil g5 hd
    subst hw
    rw [e2] at g1 ⊢
    exact (k25 q1 H ls locs g1 g3).2 c2 n1 v e1.symm (by rw [← c1]; exact r1) hcd
  · cases hc
theorem sn_48 (K : Kx p l e R s m args below meth c Q G st H0 hE cd cc nm own ini nL rt d cl F rv hF) (i : Int) (a b : xT) : Snd p l e R s m args below meth c Q G st H0 hE cd own ini nL rt cl F rv hF (nd 48 i a b) := by
  obtain ⟨k1, k2, k3, k4, k5, k6, k7, k8, k9, k10, k11, k12, k13, k14, k15, k16, k17, k18, k19, k20, ⟨k21, k21'⟩, k22, k23, k24, k25⟩ := K
  intro pc brk cnt dep sa g x ctl vs x' p1 p2 hc he hL hh
  simp only [ck] at hc
  simp only [ev] at he
  cases he
  obtain ⟨⟨c1, c2⟩, hc⟩ := if_some hc
  have hq := mp_e hc
  refine ⟨hx_rf, hL, fun hd hbd hk => ?_⟩
  obtain ⟨e1, e2⟩ := hk
  obtain ⟨hcd, -⟩ := ckO_e hq
  intro H ls locs vs g1 g2 g3 g4
  rw [nrm_ng hcd (fun _ => by intro q; cases q) 9]
  rw [c2] at hd
  have hw := SR_nil g4 hd
  subst hw
  rw [e2] at g1 ⊢
  exact (k25 pc H ls locs g1 g3).1 c1 e1.symm hcd
theorem sn_53 (i : Int) (a b : xT) : Snd p l e R s m args below meth c Q G st H0 hE cd own ini nL rt cl F rv hF (nd 53 i a b) := by
  intro pc brk cnt dep sa g x ctl vs x' p1 p2 hc he hL hh
  simp only [ev] at he
  cases he
theorem sn_52 (i : Int) (a b : xT) : Snd p l e R s m args below meth c Q G st H0 hE cd own ini nL rt cl F rv hF (nd 52 i a b) := by
  intro pc brk cnt dep sa g x ctl vs x' p1 p2 hc he hL hh
  simp only [ck] at hc
  simp only [ev] at he
  cases he
  obtain ⟨c1, hc⟩ := if_some hc
  cases hc
  refine ⟨hx_rf, hL, fun hd hbd => ?_⟩
  intro q hq hk
  have e1 : gst (nd 52 i a b) = [i.toNat] := by simp only [gst]
  rw [e1] at hq
  cases g with
  | zero => cases hq; exact hk
  | succ g => cases hq

end Sound3
