/-! a new post, in the order of the others -/
def ini9 : S := fun j => if j < 6 then 0 else if j < 36 then (if j % 5 = 1 then pf9 ((j - 6) / 5) else if j % 5 = 2 then 20 else if j % 5 = 3 then 5 else 0) else if j % 6 = 1 then -1 else 0
theorem ini_z : ∀ z, z < 6 → ini9 (6 + 5 * z) = pf9 z ∧ ini9 (6 + 5 * z + 1) = 20 ∧ ini9 (6 + 5 * z + 2) = 5 ∧ ini9 (6 + 5 * z + 3) = 0 ∧ ini9 (6 + 5 * z + 4) = 0
  | 0, _ => ⟨rfl, rfl, rfl, rfl, rfl⟩
  | 1, _ => ⟨rfl, rfl, rfl, rfl, rfl⟩
  | 2, _ => ⟨rfl, rfl, rfl, rfl, rfl⟩
  | 3, _ => ⟨rfl, rfl, rfl, rfl, rfl⟩
  | 4, _ => ⟨rfl, rfl, rfl, rfl, rfl⟩
  | 5, _ => ⟨rfl, rfl, rfl, rfl, rfl⟩
  | z + 6, h => absurd h (by omega)
theorem ini_r (r k : Nat) (hk : k < 6) : ini9 (36 + 6 * r + k) = if k = 1 then -1 else 0 := by
  unfold ini9
  rw [if_neg (by omega), if_neg (by omega), show (36 + 6 * r + k) % 6 = k by omega]
theorem stN_st {E : Env3} {z : Nat → Nat} {H : Heap} (hP : va_P E.1 vwCl (stN E z) H) : va_P E.1 vwCl (stW E z ini9) H := by
  refine stf_ext ini9 rfl rfl rfl rfl rfl rfl (fun q hq => ?_) (fun r hr => ?_) hP
  · obtain ⟨h1, h2, h3, h4, h5⟩ := ini_z q hq
    rw [h1, h2, h3, h4, h5]
    rw [if_pos hq, if_pos hq, if_pos hq]
    exact ⟨rfl, rfl, rfl, rfl, rfl⟩
  · have h0 := ini_r r 0 (by decide)
    have h1 := ini_r r 1 (by decide)
    have h2 := ini_r r 2 (by decide)
    have h3 := ini_r r 3 (by decide)
    have h5 := ini_r r 5 (by decide)
    rw [Nat.add_zero] at h0
    rw [h0, h1, h2, h3, h5]
    rw [if_pos hr, if_pos hr]
    exact ⟨rfl, rfl, rfl, rfl, rfl, rfl⟩
theorem nd_of_D {A : Nat → Prop} {ws : va_W} (h : va_D A ws) : (ws.map (·.1)).Nodup := by
  show List.Pairwise (fun a b => a ≠ b) _
  rw [List.pairwise_iff_getElem]
  intro i j hi hj hij e
  rw [List.getElem_map, List.getElem_map] at e
  rw [List.length_map] at hi hj
  have := h.1 i j _ _ (List.getElem?_eq_getElem hi) (List.getElem?_eq_getElem hj) e
  omega
theorem pm_new {β9 : Type} {O R T N S1 S2 S3 S4 S5 S6 : List β9} : (((((((((O ++ N) ++ R) ++ S1) ++ S2) ++ S3) ++ S4) ++ S5) ++ S6) ++ T).Perm (((O ++ R) ++ T) ++ (N ++ (S1 ++ (S2 ++ (S3 ++ (S4 ++ (S5 ++ S6))))))) := by
  classical exact List.perm_iff_count.mpr (fun q => by simp only [List.count_append]; omega)
theorem P_ap3 {D : va_G} {cl : List vw_C} {X X1 Y Y1 : va_W} {H : Heap} (h1 : va_P D cl X H → va_P D cl X1 H) (h2 : va_P D cl Y H → va_P D cl Y1 H) (hP : va_P D cl (X ++ Y) H) : va_P D cl (X1 ++ Y1) H :=
  va_P.app (h1 (P_mono (fun _ hq => List.mem_append_left _ hq) hP)) (h2 (P_mono (fun _ hq => List.mem_append_right _ hq) hP))
theorem m_X5_new (l : Launch) (E : Env3) (a : Nat) : Met l yX5_init (Cond.code yX5_init cX5_init 2 none :: ALL) ({ frames := 3, cells := 117, slots := 1980, locals := 61 }) (pR [.ref a] E [(a, .inr (5, [.null, .null, .int (I 0), .null]))])
    (qN none E [(a, .inr (5, [.null, .null, .int (I 0), .null]))] (fun (g : {g : (Nat → Nat) × (Nat → Nat) × (Nat → Nat → Nat) // ndP g.1 g.2.1 g.2.2 ∧ g.1 0 = a}) => pW E g.1.1 g.1.2.1 g.1.2.2 ini9 (fun _ => ini9) 0 0 0 (fun _ => 0) (fun _ => 0) (fun _ => 0))) 117 1980 (adIn [(a, .inr (5, [.null, .null, .int (I 0), .null]))]) := by
  intro p e h1 h2 h3 s m args below hf ha hPc hK
  obtain ⟨n, o, q1, q2, q3, ⟨hq, ⟨⟨qa, z, y⟩, hP, hD⟩, hF⟩, L, hFr, hL⟩ := m_X5_init l E a p e h1 h2 h3 s m args below hf ha hPc hK
  have pm := pm_new (O := [(a, (Sum.inr (5, [.ref (z 0 0), .ref qa, .int (I 0), .ref (y 0)]) : va_E))]) (R := [(qa, rA E 6 (fun j => ([z 1 0, z 2 0, z 3 0, z 4 0, z 5 0, z 6 0] : List Nat)[j]?))]) (T := txN E y) (N := stN E (z 0)) (S1 := stN E (z 1)) (S2 := stN E (z 2)) (S3 := stN E (z 3)) (S4 := stN E (z 4)) (S5 := stN E (z 5)) (S6 := stN E (z 6))
  have nd := (pm.map (·.1)).nodup_iff.mp (nd_of_D hD)
  have hP2 := P_mono (fun q hq => pm.mem_iff.mpr hq) hP
  have hP3 := P_ap3 (fun h => h) (P_ap3 stN_st (P_ap3 stN_st (P_ap3 stN_st (P_ap3 stN_st (P_ap3 stN_st (P_ap3 stN_st stN_st)))))) hP2
  have hN : ndP (fun i => [a, qa, y 0, y 1, y 2, y 3].getD i 0) (z 0) (fun j => z (j + 1)) := nd
  have hD2 := D_perm hD (fun q hq => pm.mem_iff.mpr hq) nd
  exact ⟨n, o, q1, q2, q3, ⟨hq, ⟨⟨((fun i => [a, qa, y 0, y 1, y 2, y 3].getD i 0), z 0, (fun j => z (j + 1))), hN, rfl⟩, hP3, dm hD2 rfl⟩, hF⟩, L, hFr, hL⟩
