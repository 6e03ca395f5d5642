/-! CLASS AND MODEL, THE SECOND WALK: chains of steps -/
def sx (σ : Int → Int) (n : Int) : Int → Int := fun k => if k < n then σ k else k
def sy (σ : Int → Int) (n : Int) : Int → Int := fun k => if k < n then σ k else if k = n then n + 1 else if k = n + 1 then n else k
section Chn
variable {F L d : Nat} {xs : Nat → Int32} {mc m m' : Mem} {e : Int} {s : xSt} {y : yS} {c : zS} {σ : Int → Int} {D H p q r p' w v dep : Int} {G : Prop}
theorem sx_l {n k : Int} (h : k < n) : sx σ n k = σ k := if_pos h
theorem sx_g {n k : Int} (h : n ≤ k) : sx σ n k = k := if_neg (by omega)
theorem nlb_1 (h : y.1.length < 3000) : nlb y = (y.1 ++ List.replicate 1 (-1), y.2) := if_pos h
theorem nlb_2 (h : y.1.length < 2999) : nlb (nlb y) = (y.1 ++ List.replicate 2 (-1), y.2) := by
  rw [nlb_1 (y := y) (by omega)]
  unfold nlb
  have e1 : (y.1 ++ List.replicate 1 (-1 : Int)).length < 3000 := by rw [List.length_append, List.length_replicate]; omega
  rw [if_pos e1]
  show (y.1 ++ List.replicate 1 (-1 : Int) ++ [-1], y.2) = _
  rw [List.append_assoc]
  rfl
theorem nln_1 (h : y.1.length < 3000) : nln y = (y.1.length : Int) := if_pos h
theorem nln_2 (h : y.1.length < 2999) : nln (nlb y) = (y.1.length : Int) + 1 := by
  rw [nlb_1 (y := y) (by omega)]
  unfold nln
  have e1 : (y.1 ++ List.replicate 1 (-1 : Int)).length = y.1.length + 1 := by rw [List.length_append, List.length_replicate]
  show (if (y.1 ++ List.replicate 1 (-1 : Int)).length < 3000 then ((y.1 ++ List.replicate 1 (-1 : Int)).length : Int) else -1) = _
  rw [e1, if_pos (by omega)]
  omega
theorem SR_lab1 (R : SR mc s y m σ D G H p) (h : y.1.length < 3000) : SR mc s (nlb y) (put m 158 46 (m 158 46 + 1)) (sx σ (y.1.length : Int)) D G H p := by
  refine SR_ext (c := 1) R (by rw [nlb_1 h]) (by rw [nlb_1 h]) (fun k hk => sx_l hk) (fun k h1 h2 => by rw [sx_g h1]; omega) (fun j k h1 h2 h3 h4 h5 => by rw [sx_g h1, sx_g h3] at h5; exact h5) (fun a k hh => ?_) (by rfl)
  rw [put_ss]
  by_cases h1 : a = 158
  · rw [if_pos h1, if_neg (fun z => hh ⟨h1, z⟩)]
  · rw [if_neg h1]
theorem SR_lab2 (R : SR mc s y m σ D G H p) (h : y.1.length < 2999) : SR mc s (nlb (nlb y)) (put m 158 46 (m 158 46 + 2)) (sx σ (y.1.length : Int)) D G H p := by
  refine SR_ext (c := 2) R (by rw [nlb_2 h]) (by rw [nlb_2 h]) (fun k hk => sx_l hk) (fun k h1 h2 => by rw [sx_g h1]; omega) (fun j k h1 h2 h3 h4 h5 => by rw [sx_g h1, sx_g h3] at h5; exact h5) (fun a k hh => ?_) (by rfl)
  rw [put_ss]
  by_cases h1 : a = 158
  · rw [if_pos h1, if_neg (fun z => hh ⟨h1, z⟩)]
  · rw [if_neg h1]
theorem sy_l {n k : Int} (h : k < n) : sy σ n k = σ k := if_pos h
theorem sy_0 {n : Int} : sy σ n n = n + 1 := by
  unfold sy
  rw [if_neg (by omega), if_pos rfl]
theorem sy_1 {n : Int} : sy σ n (n + 1) = n := by
  unfold sy
  rw [if_neg (by omega), if_neg (by omega), if_pos rfl]
theorem SR_swp (R : SR mc s y m σ D G H p) (h : y.1.length < 2999) : SR mc s (nlb (nlb y)) (put m 158 46 (m 158 46 + 2)) (sy σ (y.1.length : Int)) D G H p := by
  refine SR_ext (c := 2) R (by rw [nlb_2 h]) (by rw [nlb_2 h]) (fun k hk => sy_l hk) (fun k h1 h2 => ?_) (fun j k h1 h2 h3 h4 h5 => ?_) (fun a k hh => ?_) (by rfl)
  · have : k = (y.1.length : Int) ∨ k = (y.1.length : Int) + 1 := by omega
    rcases this with rfl | rfl
    · rw [sy_0]; omega
    · rw [sy_1]; omega
  · have : j = (y.1.length : Int) ∨ j = (y.1.length : Int) + 1 := by omega
    have : k = (y.1.length : Int) ∨ k = (y.1.length : Int) + 1 := by omega
    rcases this with rfl | rfl
    · rcases ‹j = _ ∨ j = _› with rfl | rfl
      · rfl
      · rw [sy_0, sy_1] at h5; omega
    · rcases ‹j = _ ∨ j = _› with rfl | rfl
      · rw [sy_0, sy_1] at h5; omega
      · rfl
  · rw [put_ss]
    by_cases h1 : a = 158
    · rw [if_pos h1, if_neg (fun z => hh ⟨h1, z⟩)]
    · rw [if_neg h1]
theorem Pst_WU (S : SE mc m e) (X : Pst mc e c y m m' σ D G H p q p' w v) (hq : q ≤ e) (hpq : p ≤ q) (h41 : m 158 41 + (q - p) < 2900) (hw : 0 ≤ w) : WU m' ∧ SE mc m' e := by
  have el := S.el
  obtain ⟨F1, h0, h1, σ1, e1, Y⟩ := X
  refine ⟨?_, SE_FS S F1⟩
  rcases Y with ⟨Y, hp⟩ | ⟨W, B⟩
  · have := Y.o41
    exact SR_WU (SE_FS S F1) Y.sr (by omega) (Or.inl Y.b0) (by omega)
  · exact W
theorem Bk_any (hF : 100000 ≤ F) {b : xT} {V : Int → Int} (hB : Qst 230 8 0 2 F mc e b) (S : SE mc m e) (X : Pst mc e c y m m' σ D G H p r p' w v) (h : P (kd mc) V b 8 dep r q) (hd0 : 0 ≤ dep) (hd1 : dep ≤ 30) (hp : 0 ≤ p) (hpr : p ≤ r) (hq : q ≤ e) (h41 : m 158 41 + 2 * (q - p) < 2900) (hlab : (y.1.length : Int) + 2 * (q - p) - v < 2900) (hw : 0 ≤ w) (hv : 0 ≤ v) (hD : ∀ j, 0 ≤ j → j < q → mc 54 j.toNat < D) (hd : 300 + 4 * (31 - dep).toNat ≤ d) : ∃ p2 m2, Cx F (d + 10) 230 [158] (Hp L xs (rv p' dep m')) = some ([], Hp L xs (rv p2 dep m2)) ∧ Pst mc e (stS mc b H 0 0 c) y m m2 σ D G H p q p2 (w + 2) (v + 2) := by
  have el := S.el
  have l0 := P_le b h
  have WS := Pst_WU S X (by omega) hpr (by omega) hw
  obtain ⟨F1, h0, h1, σ1, e1, Y⟩ := X
  rcases Y with ⟨Y, hp1⟩ | ⟨W, B⟩
  · subst hp1
    have y41 := Y.o41
    have ylc := Y.lc
    obtain ⟨p2, m2, c1, X2⟩ := hB V dep p' q h hd0 hd1 h0 hq L xs d m' c.1 c.2 σ1 D H G WS.2 Y.sr Y.pz Y.b0 (by omega) (by omega) hD (by omega)
    exact ⟨p2, m2, c1, Pst_tr F1 e1 Y hpr X2⟩
  · refine ⟨p', m', B_230 W hF B.1 ⟨h0, by omega⟩ ⟨hd0, hd1⟩, F1, h0, h1, σ, fun _ _ => rfl, Or.inr ⟨W, ?_⟩⟩
    exact Br_stS (y := c.2) S.mo B hp (by decide) (by decide) h (Int.le_refl _) hq
theorem Pst_em2 {o a l lm : Int} {z : Bool} (X : Pst mc e c y m m' σ D G H p q p' w v) (hpq : p ≤ q) (h41 : m 158 41 + (q - p) < 2900) (hw : 0 ≤ w) (hu : psh o = 0) (hl : lm = σ l) (hll : l < (y.1.length : Int)) : Pst mc e (em o a l c.1, c.2) y m (emG m' o a lm 0 z) σ D G H p q p' (w - 1) v := by
  obtain ⟨F1, h0, h1, σ1, e1, Y⟩ := X
  refine ⟨FS_tr F1 FS_emG, h0, h1, σ1, e1, ?_⟩
  rcases Y with ⟨Y, hp⟩ | ⟨W, B⟩
  · left
    have y41 := Y.o41
    have ly := Y.ly
    have b2 : w32 (c.1.2.1 + 0) = 0 := by rw [Y.pz]; decide
    have b3 : (em o a l c.1).2.1 = 0 := by
      show w32 (c.1.2.1 + psh o) = 0
      rw [hu]; exact b2
    have g41 := (Fm_emG (m := m') (o := o) (a := a) (l := lm) (u := 0) (z := z) (Or.inl Y.b0)).2.2.2.1
    have FF := FE_emG (m := m') (o := o) (a := a) (l := lm) (u := 0) (z := z)
    refine ⟨⟨emG_ok Y.b0, ?_, b3, by omega, Y.lc, Y.ly, by rw [FF 158 30 rfl]; exact Y.l30, Y.w39.trans (FF 158 39 rfl).symm, Y.w40.trans (FF 158 40 rfl).symm, fun k hk => (FF 176 k rfl).trans (Y.c176 k hk)⟩, hp⟩
    have hl2 : lm = σ1 l := by rw [hl, e1 l hll]
    have hl3 : l < (c.2.1.length : Int) := by omega
    cases z
    · exact SR_em Y.sr Y.b0 (by omega) hu hl2 hl3
    · exact SR_emz Y.sr Y.b0 (by omega) hu b2 hl2 hl3
  · right
    rw [emG_b B.1]
    exact ⟨W, B⟩
theorem Pst_stand {l lm : Int} (X : Pst mc e c y m m' σ D G H p q p' w v) (h0 : 0 ≤ l) (hl : lm = σ l) (hll : l < (y.1.length : Int)) : Pst mc e (c.1, slb l (c.1.1.length : Int) c.2) y m (put m' 181 lm.toNat (m' 158 41)) σ D G H p q p' w v := by
  obtain ⟨F1, g0, g1, σ1, e1, Y⟩ := X
  refine ⟨FS_put F1 rfl, g0, g1, σ1, e1, ?_⟩
  rcases Y with ⟨Y, hp⟩ | ⟨W, B⟩
  · left
    have ly := Y.ly
    have hl2 : lm = σ1 l := by rw [hl, e1 l hll]
    have hs := SR_st Y.sr h0 (by omega)
    rw [← hl2] at hs
    have hlen : (slb l (c.1.1.length : Int) c.2).1.length = c.2.1.length := by
      unfold slb
      split
      · exact List.length_set
      · rfl
    exact ⟨⟨Y.b0, hs, Y.pz, Y.o41, by show ((slb l (c.1.1.length : Int) c.2).1.length : Int) ≤ _; rw [hlen]; exact Y.lc, by show _ ≤ ((slb l (c.1.1.length : Int) c.2).1.length : Int); rw [hlen]; exact Y.ly, Y.l30, Y.w39, Y.w40, Y.c176⟩, hp⟩
  · exact Or.inr ⟨W, B⟩
theorem Pst_base {y1 : yS} {m1 : Mem} {σ1 : Int → Int} {n : Int} (X : Pst mc e c y1 m1 m' σ1 D G H p q p' w v) (F0 : FS m m1) (hn : 0 ≤ n) (hlen : (y1.1.length : Int) = (y.1.length : Int) + n) (he : ∀ k : Int, k < (y.1.length : Int) → σ1 k = σ k) (h41 : m1 158 41 = m 158 41) (h30 : m1 158 30 = m 158 30) (h39 : m1 158 39 = m 158 39) (h40 : m1 158 40 = m 158 40) (h176 : ∀ k, m1 176 k = m 176 k) : Pst mc e c y m m' σ D G H p q p' w (v - n) := by
  obtain ⟨F1, g0, g1, σ2, e1, Y⟩ := X
  refine ⟨FS_tr F0 F1, g0, g1, σ2, fun k hk => (e1 k (by omega)).trans (he k hk), ?_⟩
  rcases Y with ⟨Y, hp⟩ | ⟨W, B⟩
  · left
    have y41 := Y.o41
    have ylc := Y.lc
    have yly := Y.ly
    have y30 := Y.l30
    exact ⟨⟨Y.b0, Y.sr, Y.pz, by omega, by omega, by omega, by omega, h39.symm.trans Y.w39, h40.symm.trans Y.w40, fun k hk => (Y.c176 k (by omega)).trans (h176 k)⟩, hp⟩
  · exact Or.inr ⟨W, B⟩
theorem Pst_w {w' v' : Int} (X : Pst mc e c y m m' σ D G H p q p' w v) (h1 : w' ≤ w) (h2 : v' ≤ v) : Pst mc e c y m m' σ D G H p q p' w' v' := by
  obtain ⟨F1, g0, g1, σ2, e1, Y⟩ := X
  refine ⟨F1, g0, g1, σ2, e1, ?_⟩
  rcases Y with ⟨Y, hp⟩ | Y
  · have y41 := Y.o41
    have ylc := Y.lc
    exact Or.inl ⟨⟨Y.b0, Y.sr, Y.pz, by omega, by omega, Y.ly, Y.l30, Y.w39, Y.w40, Y.c176⟩, hp⟩
  · exact Or.inr Y
end Chn
