/-! SOUNDNESS of every well-formed tree -/
def is30 : xT → Bool
  | .tag 30 (.nest _ (.append _ _)) => true
  | _ => false
theorem is30_e {t : xT} (h : is30 t = true) : ∃ i a b, t = nd 30 i a b := by
  unfold is30 at h
  split at h
  · exact ⟨_, _, _, rfl⟩
  · cases h
def wfT : xT → Bool
  | .tag k (.nest _ (.append a b)) => match k with
    | 0 => true
    | 1 => true
    | 2 => true
    | 16 => true
    | 17 => true
    | 18 => true
    | 30 => true
    | 33 => true
    | 45 => true
    | 46 => true
    | 48 => true
    | 52 => true
    | 53 => true
    | 56 => true
    | 57 => true
    | 3 => kcl (tagT a) == 0 && kcl (tagT b) == 0 && wfT a && wfT b
    | 6 => kcl (tagT a) == 0 && kcl (tagT b) == 0 && wfT a && wfT b
    | 20 => kcl (tagT a) == 0 && kcl (tagT b) == 0 && wfT a && wfT b
    | 22 => kcl (tagT a) == 0 && kcl (tagT b) == 0 && wfT a && wfT b
    | 34 => kcl (tagT a) == 0 && kcl (tagT b) == 0 && wfT a && wfT b
    | 54 => kcl (tagT a) == 0 && kcl (tagT b) == 0 && wfT a && wfT b
    | 23 => kcl (tagT a) == 1 && kcl (tagT b) == 1 && wfT a && wfT b
    | 24 => kcl (tagT a) == 1 && kcl (tagT b) == 1 && wfT a && wfT b
    | 27 => kcl (tagT a) == 1 && kcl (tagT b) == 2 && wfT a && wfT b
    | 38 => kcl (tagT a) == 1 && kcl (tagT b) == 2 && wfT a && wfT b
    | 31 => kcl (tagT a) == 2 && kcl (tagT b) == 2 && wfT a && wfT b
    | 43 => kcl (tagT a) == 2 && kcl (tagT b) == 1 && wfT a && wfT b
    | 50 => kcl (tagT a) == 2 && kcl (tagT b) == 4 && wfT a && wfT b
    | 51 => kcl (tagT a) == 2 && kcl (tagT b) == 4 && wfT a && wfT b
    | 58 => kcl (tagT a) == 0 && kcl (tagT b) == 3 && wfT a && wfT b
    | 4 => kcl (tagT a) == 0 && wfT a
    | 5 => kcl (tagT a) == 0 && wfT a
    | 7 => kcl (tagT a) == 0 && wfT a
    | 12 => kcl (tagT a) == 0 && wfT a
    | 21 => kcl (tagT a) == 0 && wfT a
    | 36 => kcl (tagT a) == 0 && wfT a
    | 37 => kcl (tagT a) == 0 && wfT a
    | 25 => kcl (tagT a) == 1 && wfT a
    | 8 => kcl (tagT b) == 3 && wfT b
    | 10 => kcl (tagT b) == 3 && wfT b
    | 59 => kcl (tagT b) == 3 && wfT b
    | 60 => kcl (tagT b) == 3 && wfT b
    | 13 => kcl (tagT b) == 5 && wfT b
    | 32 => kcl (tagT b) == 0 && wfT b
    | 47 => kcl (tagT b) == 0 && wfT b
    | 42 => kcl (tagT b) == 2 && wfT b
    | 14 => kcl (tagT a) == 0 && wfT a && (is30 b || (kcl (tagT b) == 5 && wfT b))
    | _ => false
  | .group (.tag k (.nest _ (.append a (.append b c)))) .allOrNone => match k with
    | 9 => kcl (tagT a) == 1 && kcl (tagT b) == 0 && kcl (tagT c) == 0 && wfT a && wfT b && wfT c
    | 35 => kcl (tagT a) == 0 && kcl (tagT b) == 0 && kcl (tagT c) == 0 && wfT a && wfT b && wfT c
    | 55 => kcl (tagT a) == 0 && kcl (tagT b) == 0 && kcl (tagT c) == 0 && wfT a && wfT b && wfT c
    | 39 => kcl (tagT a) == 1 && kcl (tagT b) == 2 && kcl (tagT c) == 2 && wfT a && wfT b && wfT c
    | 40 => kcl (tagT a) == 1 && kcl (tagT b) == 2 && kcl (tagT c) == 2 && wfT a && wfT b && wfT c
    | 28 => kcl (tagT a) == 1 && kcl (tagT b) == 2 && kcl (tagT c) == 2 && wfT a && wfT b && wfT c
    | 41 => kcl (tagT a) == 1 && kcl (tagT b) == 2 && kcl (tagT c) == 2 && wfT a && wfT b && wfT c
    | 49 => kcl (tagT a) == 0 && kcl (tagT c) == 4 && wfT a && wfT c
    | _ => false
  | _ => false

section Sound6
variable {p : Program} {l : Launch} {e : Env} {R : Room} {s : State} {m : MethodId} {args : Array Value} {below : List Frame} {meth : Method} {c : Code} {Q : State → Prop}
variable {G : xG} {st : xStt} {H0 : Heap} {hE : xH} {cd : xC} {cc : ByteArray} {nm : String} {own : Nat} {ini : Bool} {nL rt d : Nat} {cl : Nat → List Int → xH → Option (List Int × xH)} {F : Nat} {rv : List Int} {hF : xH}

theorem snd_all (K : Kx p l e R s m args below meth c Q G st H0 hE cd cc nm own ini nL rt d cl F rv hF) : (t : xT) → wfT t = true → Snd p l e R s m args below meth c Q G st H0 hE cd own ini nL rt cl F rv hF t
  | .tag k (.nest i (.append a b)), h => by
    have ha := fun z => snd_all K a z
    have hb := fun z => snd_all K b z
    simp only [wfT] at h
    split at h
    · exact sn_0 K i a b
    · exact sn_1 K i a b
    · exact sn_2 K i a b
    · exact sn_16 K i a b
    · exact sn_17 K i a b
    · exact sn_18 K i a b
    · exact sn_30 i a b
    · exact sn_33 K i a b
    · exact sn_45 i a b
    · exact sn_46 i a b
    · exact sn_48 K i a b
    · exact sn_52 i a b
    · exact sn_53 i a b
    · exact sn_56 K i a b
    · exact sn_57 i a b
    · simp only [Bool.and_eq_true, beq_iff_eq] at h
      exact sn_3 K i a b (ha h.1.2) (hb h.2) h.1.1.1 h.1.1.2
    · simp only [Bool.and_eq_true, beq_iff_eq] at h
      exact sn_6 K i a b (ha h.1.2) (hb h.2) h.1.1.1 h.1.1.2
    · simp only [Bool.and_eq_true, beq_iff_eq] at h
      exact sn_20 K i a b (ha h.1.2) (hb h.2) h.1.1.1 h.1.1.2
    · simp only [Bool.and_eq_true, beq_iff_eq] at h
      exact sn_22 K i a b (ha h.1.2) (hb h.2) h.1.1.1 h.1.1.2
    · simp only [Bool.and_eq_true, beq_iff_eq] at h
      exact sn_34 K i a b (ha h.1.2) (hb h.2) h.1.1.1 h.1.1.2
    · simp only [Bool.and_eq_true, beq_iff_eq] at h
      exact sn_54 K i a b (ha h.1.2) (hb h.2) h.1.1.1 h.1.1.2
    · simp only [Bool.and_eq_true, beq_iff_eq] at h
      exact sn_23 K i a b (ha h.1.2) (hb h.2) h.1.1.1 h.1.1.2
    · simp only [Bool.and_eq_true, beq_iff_eq] at h
      exact sn_24 K i a b (ha h.1.2) (hb h.2) h.1.1.1 h.1.1.2
    · simp only [Bool.and_eq_true, beq_iff_eq] at h
      exact sn_27 K i a b (ha h.1.2) (hb h.2) h.1.1.1 h.1.1.2
    · simp only [Bool.and_eq_true, beq_iff_eq] at h
      exact sn_38 K i a b (ha h.1.2) (hb h.2) h.1.1.1 h.1.1.2
    · simp only [Bool.and_eq_true, beq_iff_eq] at h
      exact sn_31 K i a b (ha h.1.2) (hb h.2) h.1.1.1 h.1.1.2
    · simp only [Bool.and_eq_true, beq_iff_eq] at h
      exact sn_43 K i a b (ha h.1.2) (hb h.2) h.1.1.1 h.1.1.2
    · simp only [Bool.and_eq_true, beq_iff_eq] at h
      exact sn_50 K i a b (ha h.1.2) (hb h.2) h.1.1.1 h.1.1.2
    · simp only [Bool.and_eq_true, beq_iff_eq] at h
      exact sn_51 K i a b (ha h.1.2) (hb h.2) h.1.1.1 h.1.1.2
    · simp only [Bool.and_eq_true, beq_iff_eq] at h
      exact sn_58 K i a b (ha h.1.2) (hb h.2) h.1.1.1 h.1.1.2
    · simp only [Bool.and_eq_true, beq_iff_eq] at h
      exact sn_4 K i a b (ha h.2) h.1
    · simp only [Bool.and_eq_true, beq_iff_eq] at h
      exact sn_5 K i a b (ha h.2) h.1
    · simp only [Bool.and_eq_true, beq_iff_eq] at h
      exact sn_7 K i a b (ha h.2) h.1
    · simp only [Bool.and_eq_true, beq_iff_eq] at h
      exact sn_12 K i a b (ha h.2) h.1
    · simp only [Bool.and_eq_true, beq_iff_eq] at h
      exact sn_21 K i a b (ha h.2) h.1
    · simp only [Bool.and_eq_true, beq_iff_eq] at h
      exact sn_36 K i a b (ha h.2) h.1
    · simp only [Bool.and_eq_true, beq_iff_eq] at h
      exact sn_37 K i a b (ha h.2) h.1
    · simp only [Bool.and_eq_true, beq_iff_eq] at h
      exact sn_25 i a b (ha h.2) h.1
    · simp only [Bool.and_eq_true, beq_iff_eq] at h
      exact sn_8 K i a b (hb h.2) h.1
    · simp only [Bool.and_eq_true, beq_iff_eq] at h
      exact sn_10 K i a b (hb h.2) h.1
    · simp only [Bool.and_eq_true, beq_iff_eq] at h
      exact sn_59 K i a b (hb h.2) h.1
    · simp only [Bool.and_eq_true, beq_iff_eq] at h
      exact sn_60 K i a b (hb h.2) h.1
    · simp only [Bool.and_eq_true, beq_iff_eq] at h
      exact sn_13 K i a b (hb h.2) h.1
    · simp only [Bool.and_eq_true, beq_iff_eq] at h
      exact sn_32 K i a b (hb h.2) h.1
    · simp only [Bool.and_eq_true, beq_iff_eq] at h
      exact sn_47 K i a b (hb h.2) h.1
    · simp only [Bool.and_eq_true, beq_iff_eq] at h
      exact sn_42 K i a b (hb h.2) h.1
    · simp only [Bool.and_eq_true, beq_iff_eq, Bool.or_eq_true] at h
      refine sn_14 K i a b (ha h.1.2) ?_ h.1.1
      rcases h.2 with z | z
      · exact Or.inr (is30_e z)
      · exact Or.inl ⟨hb z.2, z.1⟩
    · cases h
  | .group (.tag k (.nest i (.append a (.append b c0)))) .allOrNone, h => by
    have ha := fun z => snd_all K a z
    have hb := fun z => snd_all K b z
    have hc := fun z => snd_all K c0 z
    simp only [wfT] at h
    split at h
    · simp only [Bool.and_eq_true, beq_iff_eq] at h
      exact sn_9 K i a b c0 (ha h.1.1.2) (hb h.1.2) (hc h.2) h.1.1.1.1.1 h.1.1.1.1.2 h.1.1.1.2
    · simp only [Bool.and_eq_true, beq_iff_eq] at h
      exact sn_35 K i a b c0 (ha h.1.1.2) (hb h.1.2) (hc h.2) h.1.1.1.1.1 h.1.1.1.1.2 h.1.1.1.2
    · simp only [Bool.and_eq_true, beq_iff_eq] at h
      exact sn_55 K i a b c0 (ha h.1.1.2) (hb h.1.2) (hc h.2) h.1.1.1.1.1 h.1.1.1.1.2 h.1.1.1.2
    · simp only [Bool.and_eq_true, beq_iff_eq] at h
      exact sn_39 K i a b c0 (ha h.1.1.2) (hb h.1.2) (hc h.2) h.1.1.1.1.1 h.1.1.1.1.2 h.1.1.1.2
    · simp only [Bool.and_eq_true, beq_iff_eq] at h
      exact sn_40 K i a b c0 (ha h.1.1.2) (hb h.1.2) (hc h.2) h.1.1.1.1.1 h.1.1.1.1.2 h.1.1.1.2
    · simp only [Bool.and_eq_true, beq_iff_eq] at h
      exact sn_28 K i a b c0 (ha h.1.1.2) (hb h.1.2) (hc h.2) h.1.1.1.1.1 h.1.1.1.1.2 h.1.1.1.2
    · simp only [Bool.and_eq_true, beq_iff_eq] at h
      exact sn_41 K i a b c0 (ha h.1.1.2) (hb h.1.2) (hc h.2) h.1.1.1.1.1 h.1.1.1.1.2 h.1.1.1.2
    · simp only [Bool.and_eq_true, beq_iff_eq] at h
      exact sn_49 K i a b c0 (ha h.1.2) (hc h.2) h.1.1.1 h.1.1.2
    · cases h
  | .nil, h => by cases h
  | .line, h => by cases h
  | .align _, h => by cases h
  | .text _, h => by cases h
  | .nest _ _, h => by cases h
  | .append _ _, h => by cases h
  | .tag _ .nil, h => by cases h
  | .tag _ .line, h => by cases h
  | .tag _ (.align _), h => by cases h
  | .tag _ (.text _), h => by cases h
  | .tag _ (.append _ _), h => by cases h
  | .tag _ (.group _ _), h => by cases h
  | .tag _ (.tag _ _), h => by cases h
  | .tag _ (.nest _ .nil), h => by cases h
  | .tag _ (.nest _ .line), h => by cases h
  | .tag _ (.nest _ (.align _)), h => by cases h
  | .tag _ (.nest _ (.text _)), h => by cases h
  | .tag _ (.nest _ (.nest _ _)), h => by cases h
  | .tag _ (.nest _ (.group _ _)), h => by cases h
  | .tag _ (.nest _ (.tag _ _)), h => by cases h
  | .group (.tag k (.nest i (.append a (.append b c0)))) .fill, h => by cases h
  | .group .nil _, h => by cases h
  | .group .line _, h => by cases h
  | .group (.align _) _, h => by cases h
  | .group (.text _) _, h => by cases h
  | .group (.nest _ _) _, h => by cases h
  | .group (.append _ _) _, h => by cases h
  | .group (.group _ _) _, h => by cases h
  | .group (.tag _ .nil) _, h => by cases h
  | .group (.tag _ .line) _, h => by cases h
  | .group (.tag _ (.align _)) _, h => by cases h
  | .group (.tag _ (.text _)) _, h => by cases h
  | .group (.tag _ (.append _ _)) _, h => by cases h
  | .group (.tag _ (.group _ _)) _, h => by cases h
  | .group (.tag _ (.tag _ _)) _, h => by cases h
  | .group (.tag _ (.nest _ .nil)) _, h => by cases h
  | .group (.tag _ (.nest _ .line)) _, h => by cases h
  | .group (.tag _ (.nest _ (.align _))) _, h => by cases h
  | .group (.tag _ (.nest _ (.text _))) _, h => by cases h
  | .group (.tag _ (.nest _ (.nest _ _))) _, h => by cases h
  | .group (.tag _ (.nest _ (.group _ _))) _, h => by cases h
  | .group (.tag _ (.nest _ (.tag _ _))) _, h => by cases h
  | .group (.tag _ (.nest _ (.append _ .nil))) _, h => by cases h
  | .group (.tag _ (.nest _ (.append _ .line))) _, h => by cases h
  | .group (.tag _ (.nest _ (.append _ (.align _)))) _, h => by cases h
  | .group (.tag _ (.nest _ (.append _ (.text _)))) _, h => by cases h
  | .group (.tag _ (.nest _ (.append _ (.nest _ _)))) _, h => by cases h
  | .group (.tag _ (.nest _ (.append _ (.group _ _)))) _, h => by cases h
  | .group (.tag _ (.nest _ (.append _ (.tag _ _)))) _, h => by cases h

end Sound6
