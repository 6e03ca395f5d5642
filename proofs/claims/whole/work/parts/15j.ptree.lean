/-! PARSE TREES: no shorter than nothing; they look at the values within only -/
theorem P_le {K V : Int → Int} : ∀ (t : xT) {nt : Nat} {dep p q : Int}, P K V t nt dep p q → p ≤ q
  | .tag k (.nest i (.append a b)), nt, dep, p, q, h => by
    unfold P at h
    split at h
    · obtain ⟨x0, x1, x2⟩ := h
      have lx1 := P_le a x1
      omega
    · obtain ⟨x0, r, x1, x2, x3, x4⟩ := h
      have lx1 := P_le a x1
      have lx4 := P_le b x4
      omega
    · obtain ⟨x0, r, x1, x2⟩ := h
      have lx1 := P_le a x1
      have lx2 := P_le b x2
      omega
    · obtain ⟨x0, x1, r, x2, x3⟩ := h
      have lx2 := P_le a x2
      have lx3 := P_le b x3
      omega
    · obtain ⟨x0, x1, x2, x3⟩ := h
      omega
    · obtain ⟨x0, r, x1, x2⟩ := h
      have lx1 := P_le a x1
      have lx2 := P_le b x2
      omega
    · obtain ⟨x0, x1, r, x2, x3⟩ := h
      have lx2 := P_le a x2
      have lx3 := P_le b x3
      omega
    · obtain ⟨x0, x1, x2, x3, x4⟩ := h
      omega
    · obtain ⟨x0, x1, x2, x3⟩ := h
      have lx3 := P_le a x3
      omega
    · obtain ⟨x0, x1, x2, r, x3, x4, x5⟩ := h
      have lx3 := P_le a x3
      omega
    · obtain ⟨x0, x1, x2, x3⟩ := h
      omega
    · obtain ⟨x0, x1, x2⟩ := h
      omega
    · obtain ⟨x0, x1, x2, x3, x4, x5⟩ := h
      omega
    · obtain ⟨x0, x1, x2, x3, x4, r, x5, x6, x7⟩ := h
      have lx5 := P_le a x5
      omega
    · obtain ⟨x0, x1, x2, x3⟩ := h
      have lx3 := P_le a x3
      omega
    · obtain ⟨x0, x1, x2, x3, x4⟩ := h
      omega
    · obtain ⟨x0, x1, x2, x3, r, x4, x5⟩ := h
      have lx4 := P_le a x4
      have lx5 := P_le b x5
      omega
    · obtain ⟨x0, x1, r, x2, x3⟩ := h
      have lx2 := P_le a x2
      have lx3 := P_le b x3
      omega
    · obtain ⟨x0, x1, x2⟩ := h
      omega
    · obtain ⟨x0, x1, x2, x3, r, x4, x5, x6⟩ := h
      have lx4 := P_le a x4
      omega
    · obtain ⟨x0, x1, r, x2, x3⟩ := h
      have lx2 := P_le a x2
      have lx3 := P_le b x3
      omega
    · obtain ⟨x0, x1, x2⟩ := h
      omega
    · obtain ⟨x0, x1, x2, x3, x4, r, x5, x6, x7⟩ := h
      have lx5 := P_le a x5
      omega
    · obtain ⟨x0, x1, x2, r, x3, x4, x5⟩ := h
      have lx3 := P_le a x3
      omega
    · obtain ⟨x0, x1, x2, x3, r, x4, x5, x6⟩ := h
      have lx4 := P_le a x4
      omega
    · obtain ⟨x0, x1, x2, x3, x4, r, s, x5, x6, x7, x8, x9, x10⟩ := h
      have lx5 := P_le a x5
      have lx8 := P_le b x8
      omega
    · obtain ⟨x0, x1, r, x2, x3, x4⟩ := h
      have lx2 := P_le a x2
      have lx3 := P_le b x3
      omega
    · obtain ⟨x0, x1, r, x2, x3⟩ := h
      have lx2 := P_le a x2
      have lx3 := P_le b x3
      omega
    · obtain ⟨x0, x1, r, x2, x3⟩ := h
      have lx2 := P_le a x2
      have lx3 := P_le b x3
      omega
    · obtain ⟨x0, x1, r, x2, x3, x4⟩ := h
      have lx2 := P_le a x2
      have lx4 := P_le b x4
      omega
    · obtain ⟨x0, x1, x2, x3, r, x4, x5⟩ := h
      have lx4 := P_le a x4
      have lx5 := P_le b x5
      omega
    · obtain ⟨x0, x1, x2⟩ := h
      omega
    · obtain ⟨x0, x1, x2, x3, x4, x5⟩ := h
      omega
    · obtain ⟨x0, x1, r, x2, x3, x4⟩ := h
      have lx2 := P_le a x2
      omega
    · obtain ⟨x0, x1, r, x2, x3, x4⟩ := h
      have lx2 := P_le a x2
      omega
    · obtain ⟨x0, r, x1, x2, x3⟩ := h
      have lx1 := P_le a x1
      have lx3 := P_le b x3
      omega
    · exact h.elim
  | .nil, _, _, _, _, h => h.elim
  | .line, _, _, _, _, h => h.elim
  | .align _, _, _, _, _, h => h.elim
  | .text _, _, _, _, _, h => h.elim
  | .append _ _, _, _, _, _, h => h.elim
  | .group _ _, _, _, _, _, h => h.elim
  | .nest _ _, _, _, _, _, h => h.elim
  | .tag _ .nil, _, _, _, _, h => h.elim
  | .tag _ .line, _, _, _, _, h => h.elim
  | .tag _ (.align _), _, _, _, _, h => h.elim
  | .tag _ (.text _), _, _, _, _, h => h.elim
  | .tag _ (.append _ _), _, _, _, _, h => h.elim
  | .tag _ (.group _ _), _, _, _, _, h => h.elim
  | .tag _ (.tag _ _), _, _, _, _, h => h.elim
  | .tag _ (.nest _ .nil), _, _, _, _, h => h.elim
  | .tag _ (.nest _ .line), _, _, _, _, h => h.elim
  | .tag _ (.nest _ (.align _)), _, _, _, _, h => h.elim
  | .tag _ (.nest _ (.text _)), _, _, _, _, h => h.elim
  | .tag _ (.nest _ (.nest _ _)), _, _, _, _, h => h.elim
  | .tag _ (.nest _ (.group _ _)), _, _, _, _, h => h.elim
  | .tag _ (.nest _ (.tag _ _)), _, _, _, _, h => h.elim
theorem P_cg {K V V2 : Int → Int} : ∀ (t : xT) {nt : Nat} {dep p q : Int}, P K V t nt dep p q → (∀ i, p ≤ i → i < q → V i = V2 i) → P K V2 t nt dep p q
  | .tag k (.nest i (.append a b)), nt, dep, p, q, h, hV => by
    unfold P at h
    split at h
    · obtain ⟨x0, x1, x2⟩ := h
      have lx1 := P_le a x1
      exact p_1.mpr ⟨x0, P_cg a x1 (fun i h1 h2 => hV i (by omega) (by omega)), x2⟩
    · obtain ⟨x0, r, x1, x2, x3, x4⟩ := h
      have lx1 := P_le a x1
      have lx4 := P_le b x4
      exact p_2.mpr ⟨x0, r, P_cg a x1 (fun i h1 h2 => hV i (by omega) (by omega)), x2, x3, P_cg b x4 (fun i h1 h2 => hV i (by omega) (by omega))⟩
    · obtain ⟨x0, r, x1, x2⟩ := h
      have lx1 := P_le a x1
      have lx2 := P_le b x2
      exact p_3.mpr ⟨x0, r, P_cg a x1 (fun i h1 h2 => hV i (by omega) (by omega)), P_cg b x2 (fun i h1 h2 => hV i (by omega) (by omega))⟩
    · obtain ⟨x0, x1, r, x2, x3⟩ := h
      have lx2 := P_le a x2
      have lx3 := P_le b x3
      exact p_4.mpr ⟨x0, x1, r, P_cg a x2 (fun i h1 h2 => hV i (by omega) (by omega)), P_cg b x3 (fun i h1 h2 => hV i (by omega) (by omega))⟩
    · obtain ⟨x0, x1, x2, x3⟩ := h
      exact p_5.mpr ⟨x0, x1, x2, x3⟩
    · obtain ⟨x0, r, x1, x2⟩ := h
      have lx1 := P_le a x1
      have lx2 := P_le b x2
      exact p_6.mpr ⟨x0, r, P_cg a x1 (fun i h1 h2 => hV i (by omega) (by omega)), P_cg b x2 (fun i h1 h2 => hV i (by omega) (by omega))⟩
    · obtain ⟨x0, x1, r, x2, x3⟩ := h
      have lx2 := P_le a x2
      have lx3 := P_le b x3
      exact p_7.mpr ⟨x0, x1, r, P_cg a x2 (fun i h1 h2 => hV i (by omega) (by omega)), P_cg b x3 (fun i h1 h2 => hV i (by omega) (by omega))⟩
    · obtain ⟨x0, x1, x2, x3, x4⟩ := h
      exact p_8.mpr ⟨x0, x1, x2, x3, x4⟩
    · obtain ⟨x0, x1, x2, x3⟩ := h
      have lx3 := P_le a x3
      exact p_9.mpr ⟨x0, x1, x2, P_cg a x3 (fun i h1 h2 => hV i (by omega) (by omega))⟩
    · obtain ⟨x0, x1, x2, r, x3, x4, x5⟩ := h
      have lx3 := P_le a x3
      exact p_10.mpr ⟨x0, x1, x2, r, P_cg a x3 (fun i h1 h2 => hV i (by omega) (by omega)), x4, x5⟩
    · obtain ⟨x0, x1, x2, x3⟩ := h
      exact p_11.mpr ⟨x0, x1, x2, x3⟩
    · obtain ⟨x0, x1, x2⟩ := h
      exact p_12.mpr ⟨x0, x1, x2⟩
    · obtain ⟨x0, x1, x2, x3, x4, x5⟩ := h
      exact p_13.mpr ⟨x0, x1, x2, x3, x4, x5⟩
    · obtain ⟨x0, x1, x2, x3, x4, r, x5, x6, x7⟩ := h
      have lx5 := P_le a x5
      exact p_14.mpr ⟨x0, x1, x2, x3, x4, r, P_cg a x5 (fun i h1 h2 => hV i (by omega) (by omega)), x6, x7⟩
    · obtain ⟨x0, x1, x2, x3⟩ := h
      have lx3 := P_le a x3
      exact p_15.mpr ⟨x0, x1, x2, P_cg a x3 (fun i h1 h2 => hV i (by omega) (by omega))⟩
    · obtain ⟨x0, x1, x2, x3, x4⟩ := h
      exact p_16.mpr ⟨x0, x1, x2, x3, x4⟩
    · obtain ⟨x0, x1, x2, x3, r, x4, x5⟩ := h
      have lx4 := P_le a x4
      have lx5 := P_le b x5
      exact p_17.mpr ⟨x0, x1, x2, x3, r, P_cg a x4 (fun i h1 h2 => hV i (by omega) (by omega)), P_cg b x5 (fun i h1 h2 => hV i (by omega) (by omega))⟩
    · obtain ⟨x0, x1, r, x2, x3⟩ := h
      have lx2 := P_le a x2
      have lx3 := P_le b x3
      exact p_18.mpr ⟨x0, x1, r, P_cg a x2 (fun i h1 h2 => hV i (by omega) (by omega)), P_cg b x3 (fun i h1 h2 => hV i (by omega) (by omega))⟩
    · obtain ⟨x0, x1, x2⟩ := h
      exact p_19.mpr ⟨x0, x1, x2⟩
    · obtain ⟨x0, x1, x2, x3, r, x4, x5, x6⟩ := h
      have lx4 := P_le a x4
      exact p_20.mpr ⟨x0, x1, x2, (hV p (by omega) (by omega)).symm.trans x3, r, P_cg a x4 (fun i h1 h2 => hV i (by omega) (by omega)), x5, x6⟩
    · obtain ⟨x0, x1, r, x2, x3⟩ := h
      have lx2 := P_le a x2
      have lx3 := P_le b x3
      exact p_21.mpr ⟨x0, x1, r, P_cg a x2 (fun i h1 h2 => hV i (by omega) (by omega)), P_cg b x3 (fun i h1 h2 => hV i (by omega) (by omega))⟩
    · obtain ⟨x0, x1, x2⟩ := h
      exact p_22.mpr ⟨x0, x1, x2⟩
    · obtain ⟨x0, x1, x2, x3, x4, r, x5, x6, x7⟩ := h
      have lx5 := P_le a x5
      exact p_23.mpr ⟨x0, x1, x2, x3, x4, r, P_cg a x5 (fun i h1 h2 => hV i (by omega) (by omega)), x6, x7⟩
    · obtain ⟨x0, x1, x2, r, x3, x4, x5⟩ := h
      have lx3 := P_le a x3
      exact p_24.mpr ⟨x0, x1, x2, r, P_cg a x3 (fun i h1 h2 => hV i (by omega) (by omega)), x4, x5⟩
    · obtain ⟨x0, x1, x2, x3, r, x4, x5, x6⟩ := h
      have lx4 := P_le a x4
      exact p_25.mpr ⟨x0, x1, x2, x3, r, P_cg a x4 (fun i h1 h2 => hV i (by omega) (by omega)), x5, x6⟩
    · obtain ⟨x0, x1, x2, x3, x4, r, s, x5, x6, x7, x8, x9, x10⟩ := h
      have lx5 := P_le a x5
      have lx8 := P_le b x8
      exact p_26.mpr ⟨x0, x1, x2, x3, x4, r, s, P_cg a x5 (fun i h1 h2 => hV i (by omega) (by omega)), x6, x7, P_cg b x8 (fun i h1 h2 => hV i (by omega) (by omega)), x9, x10⟩
    · obtain ⟨x0, x1, r, x2, x3, x4⟩ := h
      have lx2 := P_le a x2
      have lx3 := P_le b x3
      exact p_27.mpr ⟨x0, x1, r, P_cg a x2 (fun i h1 h2 => hV i (by omega) (by omega)), P_cg b x3 (fun i h1 h2 => hV i (by omega) (by omega)), x4⟩
    · obtain ⟨x0, x1, r, x2, x3⟩ := h
      have lx2 := P_le a x2
      have lx3 := P_le b x3
      exact p_28.mpr ⟨x0, x1, r, P_cg a x2 (fun i h1 h2 => hV i (by omega) (by omega)), P_cg b x3 (fun i h1 h2 => hV i (by omega) (by omega))⟩
    · obtain ⟨x0, x1, r, x2, x3⟩ := h
      have lx2 := P_le a x2
      have lx3 := P_le b x3
      exact p_29.mpr ⟨x0, x1, r, P_cg a x2 (fun i h1 h2 => hV i (by omega) (by omega)), P_cg b x3 (fun i h1 h2 => hV i (by omega) (by omega))⟩
    · obtain ⟨x0, x1, r, x2, x3, x4⟩ := h
      have lx2 := P_le a x2
      have lx4 := P_le b x4
      exact p_30.mpr ⟨x0, x1, r, P_cg a x2 (fun i h1 h2 => hV i (by omega) (by omega)), x3, P_cg b x4 (fun i h1 h2 => hV i (by omega) (by omega))⟩
    · obtain ⟨x0, x1, x2, x3, r, x4, x5⟩ := h
      have lx4 := P_le a x4
      have lx5 := P_le b x5
      exact p_31.mpr ⟨x0, x1, x2, x3, r, P_cg a x4 (fun i h1 h2 => hV i (by omega) (by omega)), P_cg b x5 (fun i h1 h2 => hV i (by omega) (by omega))⟩
    · obtain ⟨x0, x1, x2⟩ := h
      exact p_32.mpr ⟨x0, x1, x2⟩
    · obtain ⟨x0, x1, x2, x3, x4, x5⟩ := h
      exact p_33.mpr ⟨x0, x1, x2, x3, x4, x5⟩
    · obtain ⟨x0, x1, r, x2, x3, x4⟩ := h
      have lx2 := P_le a x2
      exact p_34.mpr ⟨x0, x1, r, P_cg a x2 (fun i h1 h2 => hV i (by omega) (by omega)), x3, x4⟩
    · obtain ⟨x0, x1, r, x2, x3, x4⟩ := h
      have lx2 := P_le a x2
      exact p_35.mpr ⟨x0, x1, r, P_cg a x2 (fun i h1 h2 => hV i (by omega) (by omega)), x3, x4⟩
    · obtain ⟨x0, r, x1, x2, x3⟩ := h
      have lx1 := P_le a x1
      have lx3 := P_le b x3
      exact p_36.mpr ⟨x0, r, P_cg a x1 (fun i h1 h2 => hV i (by omega) (by omega)), x2, P_cg b x3 (fun i h1 h2 => hV i (by omega) (by omega))⟩
    · exact h.elim
  | .nil, _, _, _, _, h, _ => h.elim
  | .line, _, _, _, _, h, _ => h.elim
  | .align _, _, _, _, _, h, _ => h.elim
  | .text _, _, _, _, _, h, _ => h.elim
  | .append _ _, _, _, _, _, h, _ => h.elim
  | .group _ _, _, _, _, _, h, _ => h.elim
  | .nest _ _, _, _, _, _, h, _ => h.elim
  | .tag _ .nil, _, _, _, _, h, _ => h.elim
  | .tag _ .line, _, _, _, _, h, _ => h.elim
  | .tag _ (.align _), _, _, _, _, h, _ => h.elim
  | .tag _ (.text _), _, _, _, _, h, _ => h.elim
  | .tag _ (.append _ _), _, _, _, _, h, _ => h.elim
  | .tag _ (.group _ _), _, _, _, _, h, _ => h.elim
  | .tag _ (.tag _ _), _, _, _, _, h, _ => h.elim
  | .tag _ (.nest _ .nil), _, _, _, _, h, _ => h.elim
  | .tag _ (.nest _ .line), _, _, _, _, h, _ => h.elim
  | .tag _ (.nest _ (.align _)), _, _, _, _, h, _ => h.elim
  | .tag _ (.nest _ (.text _)), _, _, _, _, h, _ => h.elim
  | .tag _ (.nest _ (.nest _ _)), _, _, _, _, h, _ => h.elim
  | .tag _ (.nest _ (.group _ _)), _, _, _, _, h, _ => h.elim
  | .tag _ (.nest _ (.tag _ _)), _, _, _, _, h, _ => h.elim
