/-! the operations of the law: the wrapper of the class and the reference answer alike; written by cls19.py -/
theorem i_of (x : Int32) : ∃ v : Int, (-2147483648 ≤ v ∧ v ≤ 2147483647) ∧ x = I v := ⟨x.toInt, I_rng x, (I_of x).symm⟩
def RLr : Room := { frames := 10, cells := 1, slots := 6, locals := 300 }
def POp (l : Launch) (E : Env3) (γ α ρ : Nat → Nat) (o : Nat) (A : Nat → Prop) (yL : MethodName) (wL : List Cond) (yR : MethodName) (wR : List Cond) (rmR : Room) (xs : List Value) (st : S) (sv : Nat → S) (n N : Nat) (tx hi : S) (B : Int → Prop) : Prop :=
  ∃ (k b : Int) (ov : Int64) (st' : S) (sv' : Nat → S) (n' N' : Nat) (tx' hi' : S),
    Met l yL wL RLr (pX (.ref (γ 0) :: (xs ++ [.ref o])) E (fun q => A q ∨ q = o) (fun H => CP E γ α A st sv n N tx H ∧ outA E o H)) (qO E A o k ov (CP E γ α A st' sv' n' N' tx')) 1 6 (fun q => A q ∨ q = o) ∧
    Met l yR wR rmR (pP (.ref (ρ 0) :: xs) E (RPa E ρ st hi n N tx)) (qH (some (.int (I b))) (adR ρ) (RP E ρ k st' hi' n' N' tx')) 0 0 (adR ρ) ∧
    LI st' sv' n' N' tx' hi' ∧ (k = 0 → ov = (I b).toInt64) ∧ (0 ≤ k ∧ k ≤ 2) ∧ B b
theorem x_cp {l : Launch} {y : MethodName} {cs : List Cond} {rm : Room} {av : List Value} {E : Env3} {mc ms : Nat} {γ α : Nat → Nat} {A : Nat → Prop} {st : S} {sv : Nat → S} {n N : Nat} {tx : S} {cls : String}
    (h : ∀ (β : Nat → Nat → Nat) (ac : Int) (fs fn : S), ndP γ α β → vx_Met l y cs rm (pX av E noA (va_P E.1 vwCl (pW E γ α β st sv (n : Int) (N : Int) ac tx fs fn))) qF (xT cls noA (fun _ => True)) mc ms noA) : vx_Met l y cs rm (pX av E noA (CP E γ α A st sv n N tx)) qF (xT cls noA (fun _ => True)) mc ms noA := by
  intro p e h1 h2 h3 s m args below hf' ha hPc hK
  obtain ⟨e1, hKB, hKX, hZ, β, ac, fs, fn, hN, hA, hP⟩ := hPc
  exact h β ac fs fn hN p e h1 h2 h3 s m args below hf' ha ⟨e1, hKB, hKX, hZ, hP⟩ hK
theorem x_cpA {l : Launch} {y : MethodName} {cs : List Cond} {rm : Room} {av : List Value} {E : Env3} {mc ms : Nat} {γ α : Nat → Nat} {A : Nat → Prop} {st : S} {sv : Nat → S} {n N : Nat} {tx : S} {cls : String}
    (h : ∀ (β : Nat → Nat → Nat) (ac : Int) (fs fn : S), ndP γ α β → vx_Met l y cs rm (pX av E (adIn (pW E γ α β st sv (n : Int) (N : Int) ac tx fs fn)) (va_P E.1 vwCl (pW E γ α β st sv (n : Int) (N : Int) ac tx fs fn))) qF (xT cls (adIn (pW E γ α β st sv (n : Int) (N : Int) ac tx fs fn)) (fun H => ∃ (ac : Int) (fs fn : S), va_P E.1 vwCl (pW E γ α β st sv (n : Int) (N : Int) ac tx fs fn) H)) mc ms (adIn (pW E γ α β st sv (n : Int) (N : Int) ac tx fs fn))) : vx_Met l y cs rm (pX av E A (CP E γ α A st sv n N tx)) qF (xT cls A (CP E γ α A st sv n N tx)) mc ms A := by
  intro p e h1 h2 h3 s m args below hf' ha hPc hK
  obtain ⟨e1, hKB, hKX, hZ, β, ac, fs, fn, hN, hA, hP⟩ := hPc
  have ad : ∀ q, adIn (pW E γ α β st sv (n : Int) (N : Int) ac tx fs fn) q → A q := fun q g => (hA q).mp (adP_in.mpr g)
  obtain ⟨k, o, a, b, c, hq⟩ := h β ac fs fn hN p e h1 h2 h3 s m args below hf' ha ⟨e1, hKB, hKX, hZ.narrow ad, hP⟩ hK
  refine ⟨k, o, a, b, c, ?_⟩
  rcases hq with ⟨hF, -⟩ | ⟨q, hq0, E', ce, L, ⟨hE, ⟨ac', fs', fn', hP'⟩, hz, hk⟩, g1, g2, g3, g4, g5, g6⟩
  · exact hF.elim
  · exact Or.inr ⟨q, hq0, E', ce, L, ⟨hE, ⟨β, ac', fs', fn', hN, hA, hP'⟩, hz, fun q' h5 h6 => hk q' h5 (fun h7 => h6 (ad q' h7))⟩, g1, g2, g3, g4, g5, fun z hz => ad _ (g6 z hz)⟩
set_option maxHeartbeats 400000 in
set_option maxRecDepth 100000 in
theorem op_parentOf (l : Launch) (hl0 : l.stackTraces = false) (E : Env3) (γ α ρ : Nat → Nat) (o : Nat) (A : Nat → Prop) (hoA : ¬ A o) (hρ : dR ρ 6) (st : S) (sv : Nat → S) (n N : Nat) (tx hi : S) (hL : LI st sv n N tx hi) (x1 : Int32) : POp l E γ α ρ o A yL_parentOf (Cond.codeWith yL_parentOf cL_parentOf 4 (some .int) [(0, 9, 12, 13)] :: ALL) yX6_parentOf (Cond.code yX6_parentOf cX6_parentOf 2 (some .int) :: ALL) ({ frames := 3, cells := 0, slots := 0, locals := 64 }) [.int x1] st sv n N tx hi (fun _ => True) := by
  obtain ⟨v1, g1, rfl⟩ := i_of x1
  have hI := hL.2.1
  have hT := hL.2.2.1
  have h0 := hI.1
  by_cases c1 : 0 ≤ v1 ∧ v1 ≤ 5
  · obtain ⟨z, rfl⟩ := Int.eq_ofNat_of_zero_le (show 0 ≤ v1 by omega)
    have hz : z < 6 := by omega
    exact ⟨0, (st (6 + 5 * z)), _, st, sv, n, N, tx, hi, (w_parentOf_ok l E (γ 0) o _ _ A _ _ CP_0 hoA CP_on (cp_S (m_X5_parentOf_ok l E α (γ 0) (γ 1) (γ 2) (n : Int) st z hz))), (rp_W (fun th pa kd nm ke wy => m_X6_parentOf_ok l E ρ th (n : Int) (N : Int) pa kd nm st hi ke tx wy hρ z hz)), hL, fun _ => rfl, ⟨by decide, by decide⟩, trivial⟩
  · exact ⟨1, 0, 0, st, sv, n, N, tx, hi, (w_parentOf_x1 l E (γ 0) o _ noA _ _ A _ _ CP_0 hoA (fun _ h => h.elim) (fun H h => va_P_nil) (fun H H1 h h1 h2 _ => CP_on _ _ h h1 (fun q hq _ => h2 q hq (fun z => z))) (x_parentOf l hl0 E (γ 0) v1 g1 c1)), (rp_W (fun th pa kd nm ke wy => m_X6_parentOf_bad l E ρ th (n : Int) (N : Int) pa kd nm st hi ke tx wy hρ v1 g1 c1)), hL, fun h9 => absurd h9 (by decide), ⟨by decide, by decide⟩, trivial⟩
set_option maxHeartbeats 400000 in
set_option maxRecDepth 100000 in
theorem op_depthOf (l : Launch) (hl0 : l.stackTraces = false) (E : Env3) (γ α ρ : Nat → Nat) (o : Nat) (A : Nat → Prop) (hoA : ¬ A o) (hρ : dR ρ 6) (st : S) (sv : Nat → S) (n N : Nat) (tx hi : S) (hL : LI st sv n N tx hi) (x1 : Int32) : POp l E γ α ρ o A yL_depthOf (Cond.codeWith yL_depthOf cL_depthOf 4 (some .int) [(0, 9, 12, 13)] :: ALL) yX6_depthOf (Cond.code yX6_depthOf cX6_depthOf 2 (some .int) :: ALL) ({ frames := 2, cells := 0, slots := 0, locals := 45 }) [.int x1] st sv n N tx hi (fun _ => True) := by
  obtain ⟨v1, g1, rfl⟩ := i_of x1
  have hI := hL.2.1
  have hT := hL.2.2.1
  have h0 := hI.1
  by_cases c1 : 0 ≤ v1 ∧ v1 ≤ 5
  · obtain ⟨z, rfl⟩ := Int.eq_ofNat_of_zero_le (show 0 ≤ v1 by omega)
    have hz : z < 6 := by omega
    exact ⟨0, (depthF 6 st z), _, st, sv, n, N, tx, hi, (w_depthOf_ok l E (γ 0) o _ _ A _ _ CP_0 hoA CP_on (cp_S (m_X5_depthOf_ok l E α (γ 0) (γ 1) (γ 2) (n : Int) st 9999 hI z hz))), (rp_W (fun th pa kd nm ke wy => m_X6_depthOf_ok l E ρ th (n : Int) (N : Int) pa kd nm st hi ke tx wy hρ 9999 hI z hz)), hL, fun _ => rfl, ⟨by decide, by decide⟩, trivial⟩
  · exact ⟨1, 0, 0, st, sv, n, N, tx, hi, (w_depthOf_x1 l E (γ 0) o _ noA _ _ A _ _ CP_0 hoA (fun _ h => h.elim) (fun H h => va_P_nil) (fun H H1 h h1 h2 _ => CP_on _ _ h h1 (fun q hq _ => h2 q hq (fun z => z))) (x_depthOf l hl0 E (γ 0) v1 g1 c1)), (rp_W (fun th pa kd nm ke wy => m_X6_depthOf_bad l E ρ th (n : Int) (N : Int) pa kd nm st hi ke tx wy hρ v1 g1 c1)), hL, fun h9 => absurd h9 (by decide), ⟨by decide, by decide⟩, trivial⟩
set_option maxHeartbeats 400000 in
set_option maxRecDepth 100000 in
theorem op_referralLeft (l : Launch) (hl0 : l.stackTraces = false) (E : Env3) (γ α ρ : Nat → Nat) (o : Nat) (A : Nat → Prop) (hoA : ¬ A o) (hρ : dR ρ 6) (st : S) (sv : Nat → S) (n N : Nat) (tx hi : S) (hL : LI st sv n N tx hi) (x1 : Int32) : POp l E γ α ρ o A yL_referralLeft (Cond.codeWith yL_referralLeft cL_referralLeft 4 (some .int) [(0, 9, 12, 13)] :: ALL) yX6_referralLeft (Cond.code yX6_referralLeft cX6_referralLeft 2 (some .int) :: ALL) ({ frames := 2, cells := 0, slots := 0, locals := 42 }) [.int x1] st sv n N tx hi (fun _ => True) := by
  obtain ⟨v1, g1, rfl⟩ := i_of x1
  have hI := hL.2.1
  have hT := hL.2.2.1
  have h0 := hI.1
  by_cases c1 : 0 ≤ v1 ∧ v1 ≤ 5
  · obtain ⟨z, rfl⟩ := Int.eq_ofNat_of_zero_le (show 0 ≤ v1 by omega)
    have hz : z < 6 := by omega
    exact ⟨0, (left st (st (6 + 5 * z + 3))), _, st, sv, n, N, tx, hi, (w_referralLeft_ok l E (γ 0) o _ _ A _ _ CP_0 hoA CP_on (cp_S (m_X5_referralLeft_ok l E α (γ 0) (γ 1) (γ 2) (n : Int) st 9999 hI z hz))), (rp_W (fun th pa kd nm ke wy => m_X6_referralLeft_ok l E ρ th (n : Int) (N : Int) pa kd nm st hi ke tx wy hρ 9999 hI z hz)), hL, fun _ => rfl, ⟨by decide, by decide⟩, trivial⟩
  · exact ⟨1, 0, 0, st, sv, n, N, tx, hi, (w_referralLeft_x1 l E (γ 0) o _ noA _ _ A _ _ CP_0 hoA (fun _ h => h.elim) (fun H h => va_P_nil) (fun H H1 h h1 h2 _ => CP_on _ _ h h1 (fun q hq _ => h2 q hq (fun z => z))) (x_referralLeft l hl0 E (γ 0) v1 g1 c1)), (rp_W (fun th pa kd nm ke wy => m_X6_referralLeft_bad l E ρ th (n : Int) (N : Int) pa kd nm st hi ke tx wy hρ v1 g1 c1)), hL, fun h9 => absurd h9 (by decide), ⟨by decide, by decide⟩, trivial⟩
set_option maxHeartbeats 400000 in
set_option maxRecDepth 100000 in
theorem op_questionsTo (l : Launch) (hl0 : l.stackTraces = false) (E : Env3) (γ α ρ : Nat → Nat) (o : Nat) (A : Nat → Prop) (hoA : ¬ A o) (hρ : dR ρ 6) (st : S) (sv : Nat → S) (n N : Nat) (tx hi : S) (hL : LI st sv n N tx hi) (x1 : Int32) : POp l E γ α ρ o A yL_questionsTo (Cond.codeWith yL_questionsTo cL_questionsTo 4 (some .int) [(0, 9, 12, 13)] :: ALL) yX6_questionsTo (Cond.code yX6_questionsTo cX6_questionsTo 2 (some .int) :: ALL) ({ frames := 3, cells := 0, slots := 0, locals := 64 }) [.int x1] st sv n N tx hi (fun _ => True) := by
  obtain ⟨v1, g1, rfl⟩ := i_of x1
  have hI := hL.2.1
  have hT := hL.2.2.1
  have h0 := hI.1
  by_cases c1 : 0 ≤ v1 ∧ v1 ≤ 5
  · obtain ⟨z, rfl⟩ := Int.eq_ofNat_of_zero_le (show 0 ≤ v1 by omega)
    have hz : z < 6 := by omega
    exact ⟨0, (st (6 + 5 * z + 4)), _, st, sv, n, N, tx, hi, (w_questionsTo_ok l E (γ 0) o _ _ A _ _ CP_0 hoA CP_on (cp_S (m_X5_questionsTo_ok l E α (γ 0) (γ 1) (γ 2) (n : Int) st z hz))), (rp_W (fun th pa kd nm ke wy => m_X6_questionsTo_ok l E ρ th (n : Int) (N : Int) pa kd nm st hi ke tx wy hρ z hz)), hL, fun _ => rfl, ⟨by decide, by decide⟩, trivial⟩
  · exact ⟨1, 0, 0, st, sv, n, N, tx, hi, (w_questionsTo_x1 l E (γ 0) o _ noA _ _ A _ _ CP_0 hoA (fun _ h => h.elim) (fun H h => va_P_nil) (fun H H1 h h1 h2 _ => CP_on _ _ h h1 (fun q hq _ => h2 q hq (fun z => z))) (x_questionsTo l hl0 E (γ 0) v1 g1 c1)), (rp_W (fun th pa kd nm ke wy => m_X6_questionsTo_bad l E ρ th (n : Int) (N : Int) pa kd nm st hi ke tx wy hρ v1 g1 c1)), hL, fun h9 => absurd h9 (by decide), ⟨by decide, by decide⟩, trivial⟩
set_option maxHeartbeats 400000 in
set_option maxRecDepth 100000 in
theorem op_kindOf (l : Launch) (hl0 : l.stackTraces = false) (E : Env3) (γ α ρ : Nat → Nat) (o : Nat) (A : Nat → Prop) (hoA : ¬ A o) (hρ : dR ρ 6) (st : S) (sv : Nat → S) (n N : Nat) (tx hi : S) (hL : LI st sv n N tx hi) (x1 : Int32) : POp l E γ α ρ o A yL_kindOf (Cond.codeWith yL_kindOf cL_kindOf 4 (some .int) [(0, 9, 12, 13)] :: ALL) yX6_kindOf (Cond.code yX6_kindOf cX6_kindOf 2 (some .int) :: ALL) ({ frames := 3, cells := 0, slots := 0, locals := 64 }) [.int x1] st sv n N tx hi (fun _ => True) := by
  obtain ⟨v1, g1, rfl⟩ := i_of x1
  have hI := hL.2.1
  have hT := hL.2.2.1
  have h0 := hI.1
  by_cases c1 : 0 ≤ v1 ∧ v1 ≤ 35
  · obtain ⟨r, rfl⟩ := Int.eq_ofNat_of_zero_le (show 0 ≤ v1 by omega)
    have hr : r < 36 := by omega
    exact ⟨0, (st (36 + 6 * r)), _, st, sv, n, N, tx, hi, (w_kindOf_ok l E (γ 0) o _ _ A _ _ CP_0 hoA CP_on (cp_S (m_X5_kindOf_ok l E α (γ 0) (γ 1) (γ 2) (n : Int) st r hr))), (rp_W (fun th pa kd nm ke wy => m_X6_kindOf_ok l E ρ th (n : Int) (N : Int) pa kd nm st hi ke tx wy hρ r hr)), hL, fun _ => rfl, ⟨by decide, by decide⟩, trivial⟩
  · exact ⟨1, 0, 0, st, sv, n, N, tx, hi, (w_kindOf_x1 l E (γ 0) o _ noA _ _ A _ _ CP_0 hoA (fun _ h => h.elim) (fun H h => va_P_nil) (fun H H1 h h1 h2 _ => CP_on _ _ h h1 (fun q hq _ => h2 q hq (fun z => z))) (x_kindOf l hl0 E (γ 0) v1 g1 c1)), (rp_W (fun th pa kd nm ke wy => m_X6_kindOf_bad l E ρ th (n : Int) (N : Int) pa kd nm st hi ke tx wy hρ v1 g1 c1)), hL, fun h9 => absurd h9 (by decide), ⟨by decide, by decide⟩, trivial⟩
set_option maxHeartbeats 400000 in
set_option maxRecDepth 100000 in
theorem op_valueOf (l : Launch) (hl0 : l.stackTraces = false) (E : Env3) (γ α ρ : Nat → Nat) (o : Nat) (A : Nat → Prop) (hoA : ¬ A o) (hρ : dR ρ 6) (st : S) (sv : Nat → S) (n N : Nat) (tx hi : S) (hL : LI st sv n N tx hi) (x1 : Int32) : POp l E γ α ρ o A yL_valueOf (Cond.codeWith yL_valueOf cL_valueOf 4 (some .int) [(0, 9, 12, 13)] :: ALL) yX6_valueOf (Cond.code yX6_valueOf cX6_valueOf 2 (some .int) :: ALL) ({ frames := 3, cells := 0, slots := 0, locals := 64 }) [.int x1] st sv n N tx hi (fun _ => True) := by
  obtain ⟨v1, g1, rfl⟩ := i_of x1
  have hI := hL.2.1
  have hT := hL.2.2.1
  have h0 := hI.1
  by_cases c1 : 0 ≤ v1 ∧ v1 ≤ 35
  · obtain ⟨r, rfl⟩ := Int.eq_ofNat_of_zero_le (show 0 ≤ v1 by omega)
    have hr : r < 36 := by omega
    exact ⟨0, (st (36 + 6 * r + 1)), _, st, sv, n, N, tx, hi, (w_valueOf_ok l E (γ 0) o _ _ A _ _ CP_0 hoA CP_on (cp_S (m_X5_valueOf_ok l E α (γ 0) (γ 1) (γ 2) (n : Int) st r hr))), (rp_W (fun th pa kd nm ke wy => m_X6_valueOf_ok l E ρ th (n : Int) (N : Int) pa kd nm st hi ke tx wy hρ r hr)), hL, fun _ => rfl, ⟨by decide, by decide⟩, trivial⟩
  · exact ⟨1, 0, 0, st, sv, n, N, tx, hi, (w_valueOf_x1 l E (γ 0) o _ noA _ _ A _ _ CP_0 hoA (fun _ h => h.elim) (fun H h => va_P_nil) (fun H H1 h h1 h2 _ => CP_on _ _ h h1 (fun q hq _ => h2 q hq (fun z => z))) (x_valueOf l hl0 E (γ 0) v1 g1 c1)), (rp_W (fun th pa kd nm ke wy => m_X6_valueOf_bad l E ρ th (n : Int) (N : Int) pa kd nm st hi ke tx wy hρ v1 g1 c1)), hL, fun h9 => absurd h9 (by decide), ⟨by decide, by decide⟩, trivial⟩
set_option maxHeartbeats 400000 in
set_option maxRecDepth 100000 in
theorem op_truthOf (l : Launch) (hl0 : l.stackTraces = false) (E : Env3) (γ α ρ : Nat → Nat) (o : Nat) (A : Nat → Prop) (hoA : ¬ A o) (hρ : dR ρ 6) (st : S) (sv : Nat → S) (n N : Nat) (tx hi : S) (hL : LI st sv n N tx hi) (x1 : Int32) : POp l E γ α ρ o A yL_truthOf (Cond.codeWith yL_truthOf cL_truthOf 4 (some .int) [(0, 9, 12, 13)] :: ALL) yX6_truthOf (Cond.code yX6_truthOf cX6_truthOf 2 (some .int) :: ALL) ({ frames := 2, cells := 0, slots := 0, locals := 45 }) [.int x1] st sv n N tx hi (fun _ => True) := by
  obtain ⟨v1, g1, rfl⟩ := i_of x1
  have hI := hL.2.1
  have hT := hL.2.2.1
  have h0 := hI.1
  by_cases c1 : 0 ≤ v1 ∧ v1 ≤ 35
  · obtain ⟨r, rfl⟩ := Int.eq_ofNat_of_zero_le (show 0 ≤ v1 by omega)
    have hr : r < 36 := by omega
    exact ⟨0, (truthF 7 st r), _, st, sv, n, N, tx, hi, (w_truthOf_ok l E (γ 0) o _ _ A _ _ CP_0 hoA CP_on (cp_S (m_X5_truthOf_ok l E α (γ 0) (γ 1) (γ 2) (n : Int) st 9999 hI hT r hr))), (rp_W (fun th pa kd nm ke wy => m_X6_truthOf_ok l E ρ th (n : Int) (N : Int) pa kd nm st hi ke tx wy hρ 9999 hI r hr)), hL, fun _ => rfl, ⟨by decide, by decide⟩, trivial⟩
  · exact ⟨1, 0, 0, st, sv, n, N, tx, hi, (w_truthOf_x1 l E (γ 0) o _ noA _ _ A _ _ CP_0 hoA (fun _ h => h.elim) (fun H h => va_P_nil) (fun H H1 h h1 h2 _ => CP_on _ _ h h1 (fun q hq _ => h2 q hq (fun z => z))) (x_truthOf l hl0 E (γ 0) v1 g1 c1)), (rp_W (fun th pa kd nm ke wy => m_X6_truthOf_bad l E ρ th (n : Int) (N : Int) pa kd nm st hi ke tx wy hρ v1 g1 c1)), hL, fun h9 => absurd h9 (by decide), ⟨by decide, by decide⟩, trivial⟩
set_option maxHeartbeats 400000 in
set_option maxRecDepth 100000 in
theorem op_rememberedOf (l : Launch) (hl0 : l.stackTraces = false) (E : Env3) (γ α ρ : Nat → Nat) (o : Nat) (A : Nat → Prop) (hoA : ¬ A o) (hρ : dR ρ 6) (st : S) (sv : Nat → S) (n N : Nat) (tx hi : S) (hL : LI st sv n N tx hi) (x1 : Int32) : POp l E γ α ρ o A yL_rememberedOf (Cond.codeWith yL_rememberedOf cL_rememberedOf 4 (some .int) [(0, 9, 12, 13)] :: ALL) yX6_rememberedOf (Cond.code yX6_rememberedOf cX6_rememberedOf 2 (some .int) :: ALL) ({ frames := 3, cells := 0, slots := 0, locals := 64 }) [.int x1] st sv n N tx hi (fun _ => True) := by
  obtain ⟨v1, g1, rfl⟩ := i_of x1
  have hI := hL.2.1
  have hT := hL.2.2.1
  have h0 := hI.1
  by_cases c1 : 0 ≤ v1 ∧ v1 ≤ 35
  · obtain ⟨r, rfl⟩ := Int.eq_ofNat_of_zero_le (show 0 ≤ v1 by omega)
    have hr : r < 36 := by omega
    exact ⟨0, (st (36 + 6 * r + 3)), _, st, sv, n, N, tx, hi, (w_rememberedOf_ok l E (γ 0) o _ _ A _ _ CP_0 hoA CP_on (cp_S (m_X5_rememberedOf_ok l E α (γ 0) (γ 1) (γ 2) (n : Int) st r hr))), (rp_W (fun th pa kd nm ke wy => m_X6_rememberedOf_ok l E ρ th (n : Int) (N : Int) pa kd nm st hi ke tx wy hρ r hr)), hL, fun _ => rfl, ⟨by decide, by decide⟩, trivial⟩
  · exact ⟨1, 0, 0, st, sv, n, N, tx, hi, (w_rememberedOf_x1 l E (γ 0) o _ noA _ _ A _ _ CP_0 hoA (fun _ h => h.elim) (fun H h => va_P_nil) (fun H H1 h h1 h2 _ => CP_on _ _ h h1 (fun q hq _ => h2 q hq (fun z => z))) (x_rememberedOf l hl0 E (γ 0) v1 g1 c1)), (rp_W (fun th pa kd nm ke wy => m_X6_rememberedOf_bad l E ρ th (n : Int) (N : Int) pa kd nm st hi ke tx wy hρ v1 g1 c1)), hL, fun h9 => absurd h9 (by decide), ⟨by decide, by decide⟩, trivial⟩
set_option maxHeartbeats 400000 in
set_option maxRecDepth 100000 in
theorem op_ticksLeftOf (l : Launch) (hl0 : l.stackTraces = false) (E : Env3) (γ α ρ : Nat → Nat) (o : Nat) (A : Nat → Prop) (hoA : ¬ A o) (hρ : dR ρ 6) (st : S) (sv : Nat → S) (n N : Nat) (tx hi : S) (hL : LI st sv n N tx hi) (x1 : Int32) : POp l E γ α ρ o A yL_ticksLeftOf (Cond.codeWith yL_ticksLeftOf cL_ticksLeftOf 4 (some .int) [(0, 9, 12, 13)] :: ALL) yX6_ticksLeftOf (Cond.code yX6_ticksLeftOf cX6_ticksLeftOf 2 (some .int) :: ALL) ({ frames := 2, cells := 0, slots := 0, locals := 42 }) [.int x1] st sv n N tx hi (fun _ => True) := by
  obtain ⟨v1, g1, rfl⟩ := i_of x1
  have hI := hL.2.1
  have hT := hL.2.2.1
  have h0 := hI.1
  by_cases c1 : 0 ≤ v1 ∧ v1 ≤ 35
  · obtain ⟨r, rfl⟩ := Int.eq_ofNat_of_zero_le (show 0 ≤ v1 by omega)
    have hr : r < 36 := by omega
    exact ⟨0, (left st (st (36 + 6 * r + 5))), _, st, sv, n, N, tx, hi, (w_ticksLeftOf_ok l E (γ 0) o _ _ A _ _ CP_0 hoA CP_on (cp_S (m_X5_ticksLeftOf_ok l E α (γ 0) (γ 1) (γ 2) (n : Int) st 9999 hI r hr))), (rp_W (fun th pa kd nm ke wy => m_X6_ticksLeftOf_ok l E ρ th (n : Int) (N : Int) pa kd nm st hi ke tx wy hρ 9999 hI r hr)), hL, fun _ => rfl, ⟨by decide, by decide⟩, trivial⟩
  · exact ⟨1, 0, 0, st, sv, n, N, tx, hi, (w_ticksLeftOf_x1 l E (γ 0) o _ noA _ _ A _ _ CP_0 hoA (fun _ h => h.elim) (fun H h => va_P_nil) (fun H H1 h h1 h2 _ => CP_on _ _ h h1 (fun q hq _ => h2 q hq (fun z => z))) (x_ticksLeftOf l hl0 E (γ 0) v1 g1 c1)), (rp_W (fun th pa kd nm ke wy => m_X6_ticksLeftOf_bad l E ρ th (n : Int) (N : Int) pa kd nm st hi ke tx wy hρ v1 g1 c1)), hL, fun h9 => absurd h9 (by decide), ⟨by decide, by decide⟩, trivial⟩
set_option maxHeartbeats 400000 in
set_option maxRecDepth 100000 in
theorem op_isOutOfDate (l : Launch) (hl0 : l.stackTraces = false) (E : Env3) (γ α ρ : Nat → Nat) (o : Nat) (A : Nat → Prop) (hoA : ¬ A o) (hρ : dR ρ 6) (st : S) (sv : Nat → S) (n N : Nat) (tx hi : S) (hL : LI st sv n N tx hi) (x1 : Int32) : POp l E γ α ρ o A yL_isOutOfDate (Cond.codeWith yL_isOutOfDate cL_isOutOfDate 4 (some .int) [(0, 16, 19, 13)] :: ALL) yX6_isOutOfDate (Cond.code yX6_isOutOfDate cX6_isOutOfDate 2 (some .boolean) :: ALL) ({ frames := 2, cells := 0, slots := 0, locals := 45 }) [.int x1] st sv n N tx hi (fun b => b = 0 ∨ b = 1) := by
  obtain ⟨v1, g1, rfl⟩ := i_of x1
  have hI := hL.2.1
  have hT := hL.2.2.1
  have h0 := hI.1
  by_cases c1 : 0 ≤ v1 ∧ v1 ≤ 35
  · obtain ⟨r, rfl⟩ := Int.eq_ofNat_of_zero_le (show 0 ≤ v1 by omega)
    have hr : r < 36 := by omega
    have hb01 : oldI st r = 0 ∨ oldI st r = 1 := old_01 st r
    exact ⟨0, (oldI st r), _, st, sv, n, N, tx, hi, (w_isOutOfDate_ok l E (γ 0) o _ _ A _ _ CP_0 hoA (hb01) CP_on (cp_S (m_X5_isOutOfDate_ok l E α (γ 0) (γ 1) (γ 2) (n : Int) st 9999 hI r hr))), (rp_W (fun th pa kd nm ke wy => m_X6_isOutOfDate_ok l E ρ th (n : Int) (N : Int) pa kd nm st hi ke tx wy hρ 9999 hI r hr)), hL, fun _ => rfl, ⟨by decide, by decide⟩, hb01⟩
  · exact ⟨1, 0, 0, st, sv, n, N, tx, hi, (w_isOutOfDate_x1 l E (γ 0) o _ noA _ _ A _ _ CP_0 hoA (fun _ h => h.elim) (fun H h => va_P_nil) (fun H H1 h h1 h2 _ => CP_on _ _ h h1 (fun q hq _ => h2 q hq (fun z => z))) (x_isOutOfDate l hl0 E (γ 0) v1 g1 c1)), (rp_W (fun th pa kd nm ke wy => m_X6_isOutOfDate_bad l E ρ th (n : Int) (N : Int) pa kd nm st hi ke tx wy hρ v1 g1 c1)), hL, fun h9 => absurd h9 (by decide), ⟨by decide, by decide⟩, Or.inl rfl⟩
set_option maxHeartbeats 400000 in
set_option maxRecDepth 100000 in
theorem op_wouldSolve (l : Launch) (hl0 : l.stackTraces = false) (E : Env3) (γ α ρ : Nat → Nat) (o : Nat) (A : Nat → Prop) (hoA : ¬ A o) (hρ : dR ρ 6) (st : S) (sv : Nat → S) (n N : Nat) (tx hi : S) (hL : LI st sv n N tx hi) (x1 : Int32) : POp l E γ α ρ o A yL_wouldSolve (Cond.codeWith yL_wouldSolve cL_wouldSolve 4 (some .int) [(0, 9, 12, 13)] :: ALL) yX6_wouldSolve (Cond.code yX6_wouldSolve cX6_wouldSolve 2 (some .int) :: ALL) ({ frames := 6, cells := 0, slots := 0, locals := 136 }) [.int x1] st sv n N tx hi (fun _ => True) := by
  obtain ⟨v1, g1, rfl⟩ := i_of x1
  have hI := hL.2.1
  have hT := hL.2.2.1
  have h0 := hI.1
  by_cases c1 : 0 ≤ v1 ∧ v1 ≤ 35
  · obtain ⟨r, rfl⟩ := Int.eq_ofNat_of_zero_le (show 0 ≤ v1 by omega)
    have hr : r < 36 := by omega
    exact ⟨0, (would st r), _, st, sv, n, N, tx, hi, (w_wouldSolve_ok l E (γ 0) o _ _ A _ _ CP_0 hoA CP_on (cp_S (m_X5_wouldSolve_ok l E α (γ 0) (γ 1) (γ 2) (n : Int) st 9999 hI hT r hr))), (rp_X (fun th pa kd nm ke wy => m_X6_wouldSolve_ok l E ρ th (n : Int) (N : Int) pa kd nm st hi ke tx wy hρ 9999 hI r hr) (fun _ _ _ _ _ _ => ⟨_, _, _, _, _, rfl⟩)), hL, fun _ => rfl, ⟨by decide, by decide⟩, trivial⟩
  · exact ⟨1, 0, 0, st, sv, n, N, tx, hi, (w_wouldSolve_x1 l E (γ 0) o _ noA _ _ A _ _ CP_0 hoA (fun _ h => h.elim) (fun H h => va_P_nil) (fun H H1 h h1 h2 _ => CP_on _ _ h h1 (fun q hq _ => h2 q hq (fun z => z))) (x_wouldSolve l hl0 E (γ 0) v1 g1 c1)), (rp_W (fun th pa kd nm ke wy => m_X6_wouldSolve_bad l E ρ th (n : Int) (N : Int) pa kd nm st hi ke tx wy hρ v1 g1 c1)), hL, fun h9 => absurd h9 (by decide), ⟨by decide, by decide⟩, trivial⟩
set_option maxHeartbeats 400000 in
set_option maxRecDepth 100000 in
theorem op_costOf (l : Launch) (hl0 : l.stackTraces = false) (E : Env3) (γ α ρ : Nat → Nat) (o : Nat) (A : Nat → Prop) (hoA : ¬ A o) (hρ : dR ρ 6) (st : S) (sv : Nat → S) (n N : Nat) (tx hi : S) (hL : LI st sv n N tx hi) (x1 : Int32) : POp l E γ α ρ o A yL_costOf (Cond.codeWith yL_costOf cL_costOf 4 (some .int) [(0, 9, 12, 13)] :: ALL) yX6_costOf (Cond.code yX6_costOf cX6_costOf 2 (some .int) :: ALL) ({ frames := 6, cells := 0, slots := 0, locals := 136 }) [.int x1] st sv n N tx hi (fun _ => True) := by
  obtain ⟨v1, g1, rfl⟩ := i_of x1
  have hI := hL.2.1
  have hT := hL.2.2.1
  have h0 := hI.1
  by_cases c1 : 0 ≤ v1 ∧ v1 ≤ 35
  · obtain ⟨r, rfl⟩ := Int.eq_ofNat_of_zero_le (show 0 ≤ v1 by omega)
    have hr : r < 36 := by omega
    exact ⟨0, (cost st r), _, st, sv, n, N, tx, hi, (w_costOf_ok l E (γ 0) o _ _ A _ _ CP_0 hoA CP_on (cp_S (m_X5_costOf_ok l E α (γ 0) (γ 1) (γ 2) (n : Int) st 9999 hI r hr))), (rp_X (fun th pa kd nm ke wy => m_X6_costOf_ok l E ρ th (n : Int) (N : Int) pa kd nm st hi ke tx wy hρ 9999 hI r hr) (fun _ _ _ _ _ _ => ⟨_, _, _, _, _, rfl⟩)), hL, fun _ => rfl, ⟨by decide, by decide⟩, trivial⟩
  · exact ⟨1, 0, 0, st, sv, n, N, tx, hi, (w_costOf_x1 l E (γ 0) o _ noA _ _ A _ _ CP_0 hoA (fun _ h => h.elim) (fun H h => va_P_nil) (fun H H1 h h1 h2 _ => CP_on _ _ h h1 (fun q hq _ => h2 q hq (fun z => z))) (x_costOf l hl0 E (γ 0) v1 g1 c1)), (rp_W (fun th pa kd nm ke wy => m_X6_costOf_bad l E ρ th (n : Int) (N : Int) pa kd nm st hi ke tx wy hρ v1 g1 c1)), hL, fun h9 => absurd h9 (by decide), ⟨by decide, by decide⟩, trivial⟩
set_option maxHeartbeats 400000 in
set_option maxRecDepth 100000 in
theorem op_ticksUntilTruth (l : Launch) (hl0 : l.stackTraces = false) (E : Env3) (γ α ρ : Nat → Nat) (o : Nat) (A : Nat → Prop) (hoA : ¬ A o) (hρ : dR ρ 6) (st : S) (sv : Nat → S) (n N : Nat) (tx hi : S) (hL : LI st sv n N tx hi) (x1 : Int32) : POp l E γ α ρ o A yL_ticksUntilTruth (Cond.codeWith yL_ticksUntilTruth cL_ticksUntilTruth 4 (some .int) [(0, 9, 12, 13)] :: ALL) yX6_ticksUntilTruth (Cond.code yX6_ticksUntilTruth cX6_ticksUntilTruth 4 (some .int) :: ALL) ({ frames := 6, cells := 0, slots := 0, locals := 137 }) [.int x1] st sv n N tx hi (fun _ => True) := by
  obtain ⟨v1, g1, rfl⟩ := i_of x1
  have hI := hL.2.1
  have hT := hL.2.2.1
  have h0 := hI.1
  by_cases c1 : 0 ≤ v1 ∧ v1 ≤ 35
  · obtain ⟨r, rfl⟩ := Int.eq_ofNat_of_zero_le (show 0 ≤ v1 by omega)
    have hr : r < 36 := by omega
    exact ⟨0, (waitF 100 st r 0 : Int), _, st, sv, n, N, tx, hi, (w_ticksUntilTruth_ok l E (γ 0) o _ _ A _ _ CP_0 hoA CP_on (cp_S (m_X5_ticksUntilTruth_ok l E α (γ 0) (γ 1) (γ 2) (n : Int) st 9999 hI hT (by omega) r hr))), (rp_X (fun th pa kd nm ke wy => m_X6_ticksUntilTruth_ok l E ρ th (n : Int) (N : Int) pa kd nm st hi ke tx wy hρ 9999 hI r hr (by omega) 99 (by omega) (would_99 hI hT (by omega) hr)) (fun _ _ _ _ _ _ => ⟨_, _, _, _, _, rfl⟩)), hL, fun _ => rfl, ⟨by decide, by decide⟩, trivial⟩
  · exact ⟨1, 0, 0, st, sv, n, N, tx, hi, (w_ticksUntilTruth_x1 l E (γ 0) o _ noA _ _ A _ _ CP_0 hoA (fun _ h => h.elim) (fun H h => va_P_nil) (fun H H1 h h1 h2 _ => CP_on _ _ h h1 (fun q hq _ => h2 q hq (fun z => z))) (x_ticksUntilTruth l hl0 E (γ 0) v1 g1 c1)), (rp_W (fun th pa kd nm ke wy => m_X6_ticksUntilTruth_bad l E ρ th (n : Int) (N : Int) pa kd nm st hi ke tx wy hρ v1 g1 c1)), hL, fun h9 => absurd h9 (by decide), ⟨by decide, by decide⟩, trivial⟩
set_option maxHeartbeats 400000 in
set_option maxRecDepth 100000 in
theorem op_setParent (l : Launch) (hl0 : l.stackTraces = false) (E : Env3) (γ α ρ : Nat → Nat) (o : Nat) (A : Nat → Prop) (hoA : ¬ A o) (hρ : dR ρ 6) (st : S) (sv : Nat → S) (n N : Nat) (tx hi : S) (hL : LI st sv n N tx hi) (x1 x2 : Int32) : POp l E γ α ρ o A yL_setParent (Cond.codeWith yL_setParent cL_setParent 5 (some .int) [(0, 10, 13, 13), (0, 10, 17, 15)] :: ALL) yX6_setParent (Cond.code yX6_setParent cX6_setParent 4 (some .int) :: ALL) ({ frames := 2, cells := 0, slots := 0, locals := 45 }) [.int x1, .int x2] st sv n N tx hi (fun _ => True) := by
  obtain ⟨v1, g1, rfl⟩ := i_of x1
  obtain ⟨v2, g2, rfl⟩ := i_of x2
  have hI := hL.2.1
  have hT := hL.2.2.1
  have h0 := hI.1
  by_cases c1 : 1 ≤ v1 ∧ v1 ≤ 5
  · by_cases c2 : 0 ≤ v2 ∧ v2 < v1
    · obtain ⟨z, rfl⟩ := Int.eq_ofNat_of_zero_le (show 0 ≤ v1 by omega)
      have hz : z < 6 := by omega
      obtain ⟨q, rfl⟩ := Int.eq_ofNat_of_zero_le c2.1
      have hq : q < z := by omega
      exact ⟨0, (st (6 + 5 * z)), _, up st (6 + 5 * z) (q : Int), sN sv st n, recN n, N, tx, recH st hi n, (w_setParent_ok l E (γ 0) o _ _ _ A _ _ CP_0 hoA CP_on (cp_W cp_bN (fun β ac fs fn hN => m_X5_setParent_ok l E γ α β st sv (N : Int) ac tx fs fn hN n hL.1 z q (by omega) hz hq))), (rp_W (fun th pa kd nm ke wy => m_X6_setParent_ok l E ρ th (N : Int) pa kd nm st hi ke tx wy hρ n hL.1 z q ⟨by omega, hz⟩ hq)), (LI_rec hL (IB_zone hI z 0 (q : Int) hz (Or.inl ⟨rfl, by omega, by omega, by omega⟩)) (IT_zone hT z 0 _ hz (by omega)) (hL.2.2.2.1)), fun _ => rfl, ⟨by decide, by decide⟩, trivial⟩
    · exact ⟨2, 0, 0, st, sv, n, N, tx, hi, (w_setParent_x2 l E (γ 0) o _ _ noA _ _ A _ _ CP_0 hoA (fun _ h => h.elim) (fun H h => va_P_nil) (fun H H1 h h1 h2 _ => CP_on _ _ h h1 (fun q hq _ => h2 q hq (fun z => z))) (x_setParent_2 l hl0 E (γ 0) v1 v2 g1 g2 c1 c2)), (rp_W (fun th pa kd nm ke wy => m_X6_setParent_bad2 l E ρ th (n : Int) (N : Int) pa kd nm st hi ke tx wy hρ v1 v2 g1 g2 c1 c2)), hL, fun h9 => absurd h9 (by decide), ⟨by decide, by decide⟩, trivial⟩
  · by_cases c3 : v1 = 0
    · exact ⟨1, 0, 0, st, sv, n, N, tx, hi, (w_setParent_x1 l E (γ 0) o _ _ noA _ _ A _ _ CP_0 hoA (fun _ h => h.elim) (fun H h => va_P_nil) (fun H H1 h h1 h2 _ => CP_on _ _ h h1 (fun q hq _ => h2 q hq (fun z => z))) (x_setParent_0 l hl0 E (γ 0) v1 v2 g1 g2 c3)), (rp_W (fun th pa kd nm ke wy => m_X6_setParent_bad1 l E ρ th (n : Int) (N : Int) pa kd nm st hi ke tx wy hρ v1 v2 g1 g2 c1)), hL, fun h9 => absurd h9 (by decide), ⟨by decide, by decide⟩, trivial⟩
    · exact ⟨1, 0, 0, st, sv, n, N, tx, hi, (w_setParent_x1 l E (γ 0) o _ _ noA _ _ A _ _ CP_0 hoA (fun _ h => h.elim) (fun H h => va_P_nil) (fun H H1 h h1 h2 _ => CP_on _ _ h h1 (fun q hq _ => h2 q hq (fun z => z))) (x_setParent_1 l hl0 E (γ 0) v1 v2 g1 g2 (by omega))), (rp_W (fun th pa kd nm ke wy => m_X6_setParent_bad1 l E ρ th (n : Int) (N : Int) pa kd nm st hi ke tx wy hρ v1 v2 g1 g2 c1)), hL, fun h9 => absurd h9 (by decide), ⟨by decide, by decide⟩, trivial⟩
set_option maxHeartbeats 400000 in
set_option maxRecDepth 100000 in
theorem op_setAges (l : Launch) (hl0 : l.stackTraces = false) (E : Env3) (γ α ρ : Nat → Nat) (o : Nat) (A : Nat → Prop) (hoA : ¬ A o) (hρ : dR ρ 6) (st : S) (sv : Nat → S) (n N : Nat) (tx hi : S) (hL : LI st sv n N tx hi) (x1 x2 x3 : Int32) : POp l E γ α ρ o A yL_setAges (Cond.codeWith yL_setAges cL_setAges 6 (some .int) [(0, 12, 15, 13), (0, 12, 19, 15)] :: ALL) yX6_setAges (Cond.code yX6_setAges cX6_setAges 5 (some .int) :: ALL) ({ frames := 2, cells := 0, slots := 0, locals := 45 }) [.int x1, .int x2, .int x3] st sv n N tx hi (fun _ => True) := by
  obtain ⟨v1, g1, rfl⟩ := i_of x1
  obtain ⟨v2, g2, rfl⟩ := i_of x2
  obtain ⟨v3, g3, rfl⟩ := i_of x3
  have hI := hL.2.1
  have hT := hL.2.2.1
  have h0 := hI.1
  by_cases c1 : 0 ≤ v1 ∧ v1 ≤ 5
  · by_cases c2 : 1 ≤ v2 ∧ v2 ≤ 99
    · by_cases c3 : 1 ≤ v3 ∧ v3 ≤ 99
      · obtain ⟨z, rfl⟩ := Int.eq_ofNat_of_zero_le (show 0 ≤ v1 by omega)
        have hz : z < 6 := by omega
        exact ⟨0, (st (6 + 5 * z + 1)), _, up (up st (6 + 5 * z + 1) v2) (6 + 5 * z + 2) v3, sN sv st n, recN n, N, tx, recH st hi n, (w_setAges_ok l E (γ 0) o _ _ _ _ A _ _ CP_0 hoA CP_on (cp_W cp_bN (fun β ac fs fn hN => m_X5_setAges_ok l E γ α β st sv (N : Int) ac tx fs fn hN n hL.1 z hz v2 v3 c2 c3))), (rp_W (fun th pa kd nm ke wy => m_X6_setAges_ok l E ρ th (N : Int) pa kd nm st hi ke tx wy hρ n hL.1 z v2 v3 hz c2 c3)), (LI_rec hL (IB_zone (IB_zone hI z 1 v2 hz (Or.inr (Or.inl ⟨rfl, c2⟩))) z 2 v3 hz (Or.inr (Or.inr ⟨rfl, c3⟩))) (IT_zone (IT_zone hT z 1 _ hz (by omega)) z 2 _ hz (by omega)) (hL.2.2.2.1)), fun _ => rfl, ⟨by decide, by decide⟩, trivial⟩
      · exact ⟨2, 0, 0, st, sv, n, N, tx, hi, (w_setAges_x2 l E (γ 0) o _ _ _ noA _ _ A _ _ CP_0 hoA (fun _ h => h.elim) (fun H h => va_P_nil) (fun H H1 h h1 h2 _ => CP_on _ _ h h1 (fun q hq _ => h2 q hq (fun z => z))) (x_setAges_3 l hl0 E (γ 0) v1 v2 v3 g1 g2 g3 c1 c2 c3)), (rp_W (fun th pa kd nm ke wy => m_X6_setAges_bad3 l E ρ th (n : Int) (N : Int) pa kd nm st hi ke tx wy hρ v1 v2 v3 g1 g2 g3 c1 c2 c3)), hL, fun h9 => absurd h9 (by decide), ⟨by decide, by decide⟩, trivial⟩
    · exact ⟨2, 0, 0, st, sv, n, N, tx, hi, (w_setAges_x2 l E (γ 0) o _ _ _ noA _ _ A _ _ CP_0 hoA (fun _ h => h.elim) (fun H h => va_P_nil) (fun H H1 h h1 h2 _ => CP_on _ _ h h1 (fun q hq _ => h2 q hq (fun z => z))) (x_setAges_2 l hl0 E (γ 0) v1 v2 v3 g1 g2 g3 c1 c2)), (rp_W (fun th pa kd nm ke wy => m_X6_setAges_bad2 l E ρ th (n : Int) (N : Int) pa kd nm st hi ke tx wy hρ v1 v2 v3 g1 g2 g3 c1 c2)), hL, fun h9 => absurd h9 (by decide), ⟨by decide, by decide⟩, trivial⟩
  · exact ⟨1, 0, 0, st, sv, n, N, tx, hi, (w_setAges_x1 l E (γ 0) o _ _ _ noA _ _ A _ _ CP_0 hoA (fun _ h => h.elim) (fun H h => va_P_nil) (fun H H1 h h1 h2 _ => CP_on _ _ h h1 (fun q hq _ => h2 q hq (fun z => z))) (x_setAges_1 l hl0 E (γ 0) v1 v2 v3 g1 g2 g3 c1)), (rp_W (fun th pa kd nm ke wy => m_X6_setAges_bad1 l E ρ th (n : Int) (N : Int) pa kd nm st hi ke tx wy hρ v1 v2 v3 g1 g2 g3 c1)), hL, fun h9 => absurd h9 (by decide), ⟨by decide, by decide⟩, trivial⟩
set_option maxHeartbeats 400000 in
set_option maxRecDepth 100000 in
theorem op_setAnswer (l : Launch) (hl0 : l.stackTraces = false) (E : Env3) (γ α ρ : Nat → Nat) (o : Nat) (A : Nat → Prop) (hoA : ¬ A o) (hρ : dR ρ 6) (st : S) (sv : Nat → S) (n N : Nat) (tx hi : S) (hL : LI st sv n N tx hi) (x1 x2 x3 : Int32) : POp l E γ α ρ o A yL_setAnswer (Cond.codeWith yL_setAnswer cL_setAnswer 6 (some .int) [(0, 12, 15, 13), (0, 12, 19, 15)] :: ALL) yX6_setAnswer (Cond.code yX6_setAnswer cX6_setAnswer 4 (some .int) :: ALL) ({ frames := 3, cells := 0, slots := 0, locals := 70 }) [.int x1, .int x2, .int x3] st sv n N tx hi (fun _ => True) := by
  obtain ⟨v1, g1, rfl⟩ := i_of x1
  obtain ⟨v2, g2, rfl⟩ := i_of x2
  obtain ⟨v3, g3, rfl⟩ := i_of x3
  have hI := hL.2.1
  have hT := hL.2.2.1
  have h0 := hI.1
  by_cases c1 : 0 ≤ v1 ∧ v1 ≤ 35
  · by_cases c2 : 0 ≤ v2 ∧ v2 ≤ 99
    · by_cases c3 : 1 ≤ v3 ∧ v3 ≤ 99
      · obtain ⟨r, rfl⟩ := Int.eq_ofNat_of_zero_le (show 0 ≤ v1 by omega)
        have hr : r < 36 := by omega
        exact ⟨0, (st (36 + 6 * r)), _, up (up (up st (36 + 6 * r) 1) (36 + 6 * r + 1) v2) (36 + 6 * r + 2) v3, sN sv st n, recN n, N, tx, recH st hi n, (w_setAnswer_ok l E (γ 0) o _ _ _ _ A _ _ CP_0 hoA CP_on (cp_W cp_bN (fun β ac fs fn hN => m_X5_setAnswer_ok l E γ α β st sv (N : Int) ac tx fs fn hN n hL.1 r hr v2 v3 c2 c3))), (rp_W (fun th pa kd nm ke wy => m_X6_setAnswer_ok l E ρ th (N : Int) pa kd nm st hi ke tx wy hρ n hL.1 r v2 v3 hr c2 c3)), (LI_rec hL (IB_tru hI r 1 v2 v3 hr (by unfold triT; omega)) (IT_tru hT r 1 v2 v3) (hL.2.2.2.1)), fun _ => rfl, ⟨by decide, by decide⟩, trivial⟩
      · exact ⟨2, 0, 0, st, sv, n, N, tx, hi, (w_setAnswer_x2 l E (γ 0) o _ _ _ noA _ _ A _ _ CP_0 hoA (fun _ h => h.elim) (fun H h => va_P_nil) (fun H H1 h h1 h2 _ => CP_on _ _ h h1 (fun q hq _ => h2 q hq (fun z => z))) (x_setAnswer_3 l hl0 E (γ 0) v1 v2 v3 g1 g2 g3 c1 c2 c3)), (rp_W (fun th pa kd nm ke wy => m_X6_setAnswer_bad3 l E ρ th (n : Int) (N : Int) pa kd nm st hi ke tx wy hρ v1 v2 v3 g1 g2 g3 c1 c2 c3)), hL, fun h9 => absurd h9 (by decide), ⟨by decide, by decide⟩, trivial⟩
    · exact ⟨2, 0, 0, st, sv, n, N, tx, hi, (w_setAnswer_x2 l E (γ 0) o _ _ _ noA _ _ A _ _ CP_0 hoA (fun _ h => h.elim) (fun H h => va_P_nil) (fun H H1 h h1 h2 _ => CP_on _ _ h h1 (fun q hq _ => h2 q hq (fun z => z))) (x_setAnswer_2 l hl0 E (γ 0) v1 v2 v3 g1 g2 g3 c1 c2)), (rp_W (fun th pa kd nm ke wy => m_X6_setAnswer_bad2 l E ρ th (n : Int) (N : Int) pa kd nm st hi ke tx wy hρ v1 v2 v3 g1 g2 g3 c1 c2)), hL, fun h9 => absurd h9 (by decide), ⟨by decide, by decide⟩, trivial⟩
  · exact ⟨1, 0, 0, st, sv, n, N, tx, hi, (w_setAnswer_x1 l E (γ 0) o _ _ _ noA _ _ A _ _ CP_0 hoA (fun _ h => h.elim) (fun H h => va_P_nil) (fun H H1 h h1 h2 _ => CP_on _ _ h h1 (fun q hq _ => h2 q hq (fun z => z))) (x_setAnswer_1 l hl0 E (γ 0) v1 v2 v3 g1 g2 g3 c1)), (rp_W (fun th pa kd nm ke wy => m_X6_setAnswer_bad1 l E ρ th (n : Int) (N : Int) pa kd nm st hi ke tx wy hρ v1 v2 v3 g1 g2 g3 c1)), hL, fun h9 => absurd h9 (by decide), ⟨by decide, by decide⟩, trivial⟩
set_option maxHeartbeats 400000 in
set_option maxRecDepth 100000 in
theorem op_setReference (l : Launch) (hl0 : l.stackTraces = false) (E : Env3) (γ α ρ : Nat → Nat) (o : Nat) (A : Nat → Prop) (hoA : ¬ A o) (hρ : dR ρ 6) (st : S) (sv : Nat → S) (n N : Nat) (tx hi : S) (hL : LI st sv n N tx hi) (x1 x2 x3 : Int32) : POp l E γ α ρ o A yL_setReference (Cond.codeWith yL_setReference cL_setReference 6 (some .int) [(0, 12, 15, 13), (0, 12, 19, 15)] :: ALL) yX6_setReference (Cond.code yX6_setReference cX6_setReference 4 (some .int) :: ALL) ({ frames := 3, cells := 0, slots := 0, locals := 70 }) [.int x1, .int x2, .int x3] st sv n N tx hi (fun _ => True) := by
  obtain ⟨v1, g1, rfl⟩ := i_of x1
  obtain ⟨v2, g2, rfl⟩ := i_of x2
  obtain ⟨v3, g3, rfl⟩ := i_of x3
  have hI := hL.2.1
  have hT := hL.2.2.1
  have h0 := hI.1
  by_cases c1 : 0 ≤ v1 ∧ v1 ≤ 35
  · by_cases c2 : 0 ≤ v2 ∧ v2 ≤ 35
    · by_cases c3 : v2 = v1
      · exact ⟨2, 0, 0, st, sv, n, N, tx, hi, (w_setReference_x2 l E (γ 0) o _ _ _ noA _ _ A _ _ CP_0 hoA (fun _ h => h.elim) (fun H h => va_P_nil) (fun H H1 h h1 h2 _ => CP_on _ _ h h1 (fun q hq _ => h2 q hq (fun z => z))) (x_setReference_3 l hl0 E (γ 0) v1 v2 v3 g1 g2 g3 c1 c3)), (rp_W (fun th pa kd nm ke wy => m_X6_setReference_bad3 l E ρ th (n : Int) (N : Int) pa kd nm st hi ke tx wy hρ v1 v2 v3 g1 g2 g3 c1 c2 (by omega))), hL, fun h9 => absurd h9 (by decide), ⟨by decide, by decide⟩, trivial⟩
      · by_cases c4 : 1 ≤ v3 ∧ v3 ≤ 99
        · obtain ⟨r, rfl⟩ := Int.eq_ofNat_of_zero_le (show 0 ≤ v1 by omega)
          have hr : r < 36 := by omega
          obtain ⟨q, rfl⟩ := Int.eq_ofNat_of_zero_le c2.1
          have hq : q < 36 := by omega
          exact ⟨0, (st (36 + 6 * r)), _, up (up (up st (36 + 6 * r) 2) (36 + 6 * r + 1) (q : Int)) (36 + 6 * r + 2) v3, sN sv st n, recN n, N, tx, recH st hi n, (w_setReference_ok l E (γ 0) o _ _ _ _ A _ _ CP_0 hoA CP_on (cp_W cp_bN (fun β ac fs fn hN => m_X5_setReference_ok l E γ α β st sv (N : Int) ac tx fs fn hN n hL.1 r q hr hq (by omega) v3 c4))), (rp_W (fun th pa kd nm ke wy => m_X6_setReference_ok l E ρ th (N : Int) pa kd nm st hi ke tx wy hρ n hL.1 r q v3 hr hq (by omega) c4)), (LI_rec hL (IB_tru hI r 2 (q : Int) v3 hr (by unfold triT; omega)) (IT_tru hT r 2 (q : Int) v3) (hL.2.2.2.1)), fun _ => rfl, ⟨by decide, by decide⟩, trivial⟩
        · exact ⟨2, 0, 0, st, sv, n, N, tx, hi, (w_setReference_x2 l E (γ 0) o _ _ _ noA _ _ A _ _ CP_0 hoA (fun _ h => h.elim) (fun H h => va_P_nil) (fun H H1 h h1 h2 _ => CP_on _ _ h h1 (fun q hq _ => h2 q hq (fun z => z))) (x_setReference_4 l hl0 E (γ 0) v1 v2 v3 g1 g2 g3 c1 c2 c3 c4)), (rp_W (fun th pa kd nm ke wy => m_X6_setReference_bad4 l E ρ th (n : Int) (N : Int) pa kd nm st hi ke tx wy hρ v1 v2 v3 g1 g2 g3 c1 c2 (by omega) c4)), hL, fun h9 => absurd h9 (by decide), ⟨by decide, by decide⟩, trivial⟩
    · exact ⟨1, 0, 0, st, sv, n, N, tx, hi, (w_setReference_x1 l E (γ 0) o _ _ _ noA _ _ A _ _ CP_0 hoA (fun _ h => h.elim) (fun H h => va_P_nil) (fun H H1 h h1 h2 _ => CP_on _ _ h h1 (fun q hq _ => h2 q hq (fun z => z))) (x_setReference_2 l hl0 E (γ 0) v1 v2 v3 g1 g2 g3 c1 c2)), (rp_W (fun th pa kd nm ke wy => m_X6_setReference_bad2 l E ρ th (n : Int) (N : Int) pa kd nm st hi ke tx wy hρ v1 v2 v3 g1 g2 g3 c1 c2)), hL, fun h9 => absurd h9 (by decide), ⟨by decide, by decide⟩, trivial⟩
  · exact ⟨1, 0, 0, st, sv, n, N, tx, hi, (w_setReference_x1 l E (γ 0) o _ _ _ noA _ _ A _ _ CP_0 hoA (fun _ h => h.elim) (fun H h => va_P_nil) (fun H H1 h h1 h2 _ => CP_on _ _ h h1 (fun q hq _ => h2 q hq (fun z => z))) (x_setReference_1 l hl0 E (γ 0) v1 v2 v3 g1 g2 g3 c1)), (rp_W (fun th pa kd nm ke wy => m_X6_setReference_bad1 l E ρ th (n : Int) (N : Int) pa kd nm st hi ke tx wy hρ v1 v2 v3 g1 g2 g3 c1)), hL, fun h9 => absurd h9 (by decide), ⟨by decide, by decide⟩, trivial⟩
set_option maxHeartbeats 400000 in
set_option maxRecDepth 100000 in
theorem op_takeAway (l : Launch) (hl0 : l.stackTraces = false) (E : Env3) (γ α ρ : Nat → Nat) (o : Nat) (A : Nat → Prop) (hoA : ¬ A o) (hρ : dR ρ 6) (st : S) (sv : Nat → S) (n N : Nat) (tx hi : S) (hL : LI st sv n N tx hi) (x1 : Int32) : POp l E γ α ρ o A yL_takeAway (Cond.codeWith yL_takeAway cL_takeAway 4 (some .int) [(0, 9, 12, 13), (0, 9, 15, 31)] :: ALL) yX6_takeAway (Cond.code yX6_takeAway cX6_takeAway 2 (some .int) :: ALL) ({ frames := 3, cells := 0, slots := 0, locals := 70 }) [.int x1] st sv n N tx hi (fun _ => True) := by
  obtain ⟨v1, g1, rfl⟩ := i_of x1
  have hI := hL.2.1
  have hT := hL.2.2.1
  have h0 := hI.1
  by_cases c1 : 0 ≤ v1 ∧ v1 ≤ 35
  · obtain ⟨r, rfl⟩ := Int.eq_ofNat_of_zero_le (show 0 ≤ v1 by omega)
    have hr : r < 36 := by omega
    have t9 := (hI.2.2.2 r hr).1
    unfold triT at t9
    by_cases c2 : st (36 + 6 * r) = 0
    · exact ⟨2, 0, 0, st, sv, n, N, tx, hi, (w_takeAway_x2 l E (γ 0) o _ noA _ _ A _ _ CP_0 hoA (fun _ h => h.elim) (fun H h => h) (fun H H1 h h1 h2 _ => CP_on _ _ h h1 (fun q hq _ => h2 q hq (fun z => z))) (x_cp (fun β ac fs fn hN => x_takeAway_2 l hl0 E γ α β st sv (n : Int) (N : Int) ac tx fs fn r hr c2))), (rp_W (fun th pa kd nm ke wy => m_X6_takeAway_bad2 l E ρ th (n : Int) (N : Int) pa kd nm st hi ke tx wy hρ r hr c2)), hL, fun h9 => absurd h9 (by decide), ⟨by decide, by decide⟩, trivial⟩
    · exact ⟨0, (st (36 + 6 * r)), _, up (up (up st (36 + 6 * r) 0) (36 + 6 * r + 1) (-1)) (36 + 6 * r + 2) 0, sN sv st n, recN n, N, tx, recH st hi n, (w_takeAway_ok l E (γ 0) o _ _ A _ _ CP_0 hoA CP_on (cp_W cp_bN (fun β ac fs fn hN => m_X5_takeAway_ok l E γ α β st sv (N : Int) ac tx fs fn hN n hL.1 r hr c2 (by omega)))), (rp_W (fun th pa kd nm ke wy => m_X6_takeAway_ok l E ρ th (N : Int) pa kd nm st hi ke tx wy hρ n hL.1 r hr (by omega) c2)), (LI_rec hL (IB_tru hI r 0 (-1) 0 hr (by unfold triT; omega)) (IT_tru hT r 0 (-1) 0) (hL.2.2.2.1)), fun _ => rfl, ⟨by decide, by decide⟩, trivial⟩
  · exact ⟨1, 0, 0, st, sv, n, N, tx, hi, (w_takeAway_x1 l E (γ 0) o _ noA _ _ A _ _ CP_0 hoA (fun _ h => h.elim) (fun H h => va_P_nil) (fun H H1 h h1 h2 _ => CP_on _ _ h h1 (fun q hq _ => h2 q hq (fun z => z))) (x_takeAway_1 l hl0 E (γ 0) v1 g1 c1)), (rp_W (fun th pa kd nm ke wy => m_X6_takeAway_bad1 l E ρ th (n : Int) (N : Int) pa kd nm st hi ke tx wy hρ v1 g1 c1)), hL, fun h9 => absurd h9 (by decide), ⟨by decide, by decide⟩, trivial⟩
set_option maxHeartbeats 400000 in
set_option maxRecDepth 100000 in
theorem op_solve (l : Launch) (hl0 : l.stackTraces = false) (E : Env3) (γ α ρ : Nat → Nat) (o : Nat) (A : Nat → Prop) (hoA : ¬ A o) (hρ : dR ρ 6) (st : S) (sv : Nat → S) (n N : Nat) (tx hi : S) (hL : LI st sv n N tx hi) (x1 : Int32) : POp l E γ α ρ o A yL_solve (Cond.codeWith yL_solve cL_solve 4 (some .int) [(0, 9, 12, 13)] :: ALL) yX6_solve (Cond.code yX6_solve cX6_solve 2 (some .int) :: ALL) ({ frames := 6, cells := 0, slots := 0, locals := 135 }) [.int x1] st sv n N tx hi (fun _ => True) := by
  obtain ⟨v1, g1, rfl⟩ := i_of x1
  have hI := hL.2.1
  have hT := hL.2.2.1
  have h0 := hI.1
  by_cases c1 : 0 ≤ v1 ∧ v1 ≤ 35
  · obtain ⟨r, rfl⟩ := Int.eq_ofNat_of_zero_le (show 0 ≤ v1 by omega)
    have hr : r < 36 := by omega
    exact ⟨0, (solve1 st r).2, _, (solve1 st r).1, sN sv st n, recN n, N, tx, recH st hi n, (w_solve_ok l E (γ 0) o _ _ A _ _ CP_0 hoA CP_on (cp_W cp_bN (fun β ac fs fn hN => m_X5_solve_ok l E γ α β st sv (N : Int) ac tx fs fn hN n hL.1 9999 hI r hr))), (rp_X (fun th pa kd nm ke wy => m_X6_solve_ok l E ρ th (N : Int) pa kd nm st hi ke tx wy hρ n hL.1 9999 hI r hr) (fun _ _ _ _ _ _ => ⟨_, _, _, _, _, rfl⟩)), (LI_rec hL (IB_solve1 hI hr) (IT_solve1 hI hT hr) (hL.2.2.2.1)), fun _ => rfl, ⟨by decide, by decide⟩, trivial⟩
  · exact ⟨1, 0, 0, st, sv, n, N, tx, hi, (w_solve_x1 l E (γ 0) o _ noA _ _ A _ _ CP_0 hoA (fun _ h => h.elim) (fun H h => va_P_nil) (fun H H1 h h1 h2 _ => CP_on _ _ h h1 (fun q hq _ => h2 q hq (fun z => z))) (x_solve l hl0 E (γ 0) v1 g1 c1)), (rp_W (fun th pa kd nm ke wy => m_X6_solve_bad l E ρ th (n : Int) (N : Int) pa kd nm st hi ke tx wy hρ v1 g1 c1)), hL, fun h9 => absurd h9 (by decide), ⟨by decide, by decide⟩, trivial⟩
set_option maxHeartbeats 400000 in
set_option maxRecDepth 100000 in
theorem op_forget (l : Launch) (hl0 : l.stackTraces = false) (E : Env3) (γ α ρ : Nat → Nat) (o : Nat) (A : Nat → Prop) (hoA : ¬ A o) (hρ : dR ρ 6) (st : S) (sv : Nat → S) (n N : Nat) (tx hi : S) (hL : LI st sv n N tx hi) (x1 : Int32) : POp l E γ α ρ o A yL_forget (Cond.codeWith yL_forget cL_forget 4 (some .int) [(0, 9, 12, 13), (0, 9, 15, 31)] :: ALL) yX6_forget (Cond.code yX6_forget cX6_forget 3 (some .int) :: ALL) ({ frames := 2, cells := 0, slots := 0, locals := 45 }) [.int x1] st sv n N tx hi (fun _ => True) := by
  obtain ⟨v1, g1, rfl⟩ := i_of x1
  have hI := hL.2.1
  have hT := hL.2.2.1
  have h0 := hI.1
  by_cases c1 : 0 ≤ v1 ∧ v1 ≤ 35
  · obtain ⟨r, rfl⟩ := Int.eq_ofNat_of_zero_le (show 0 ≤ v1 by omega)
    have hr : r < 36 := by omega
    have t9 := (hI.2.2.2 r hr).2
    unfold triM at t9
    by_cases c2 : st (36 + 6 * r + 3) = 0
    · exact ⟨2, 0, 0, st, sv, n, N, tx, hi, (w_forget_x2 l E (γ 0) o _ noA _ _ A _ _ CP_0 hoA (fun _ h => h.elim) (fun H h => h) (fun H H1 h h1 h2 _ => CP_on _ _ h h1 (fun q hq _ => h2 q hq (fun z => z))) (x_cp (fun β ac fs fn hN => x_forget_2 l hl0 E γ α β st sv (n : Int) (N : Int) ac tx fs fn r hr c2))), (rp_W (fun th pa kd nm ke wy => m_X6_forget_bad2 l E ρ th (n : Int) (N : Int) pa kd nm st hi ke tx wy hρ r hr c2)), hL, fun h9 => absurd h9 (by decide), ⟨by decide, by decide⟩, trivial⟩
    · exact ⟨0, (st (36 + 6 * r + 3)), _, forg st r, sN sv st n, recN n, N, tx, recH st hi n, (w_forget_ok l E (γ 0) o _ _ A _ _ CP_0 hoA CP_on (cp_W cp_bN (fun β ac fs fn hN => m_X5_forget_ok l E γ α β st sv (N : Int) ac tx fs fn hN n hL.1 r hr c2 (by omega)))), (rp_W (fun th pa kd nm ke wy => m_X6_forget_ok l E ρ th (N : Int) pa kd nm st hi ke tx wy hρ n hL.1 r hr (by omega) c2)), (LI_rec hL (IB_forg hI hr) (IT_forg hT) (hL.2.2.2.1)), fun _ => rfl, ⟨by decide, by decide⟩, trivial⟩
  · exact ⟨1, 0, 0, st, sv, n, N, tx, hi, (w_forget_x1 l E (γ 0) o _ noA _ _ A _ _ CP_0 hoA (fun _ h => h.elim) (fun H h => va_P_nil) (fun H H1 h h1 h2 _ => CP_on _ _ h h1 (fun q hq _ => h2 q hq (fun z => z))) (x_forget_1 l hl0 E (γ 0) v1 g1 c1)), (rp_W (fun th pa kd nm ke wy => m_X6_forget_bad1 l E ρ th (n : Int) (N : Int) pa kd nm st hi ke tx wy hρ v1 g1 c1)), hL, fun h9 => absurd h9 (by decide), ⟨by decide, by decide⟩, trivial⟩
set_option maxHeartbeats 400000 in
set_option maxRecDepth 100000 in
theorem op_pass (l : Launch) (hl0 : l.stackTraces = false) (E : Env3) (γ α ρ : Nat → Nat) (o : Nat) (A : Nat → Prop) (hoA : ¬ A o) (hρ : dR ρ 6) (st : S) (sv : Nat → S) (n N : Nat) (tx hi : S) (hL : LI st sv n N tx hi) (x1 : Int32) : POp l E γ α ρ o A yL_pass (Cond.codeWith yL_pass cL_pass 4 (some .int) [(0, 9, 12, 15), (0, 9, 15, 31)] :: ALL) yX6_pass (Cond.code yX6_pass cX6_pass 2 (some .int) :: ALL) ({ frames := 3, cells := 0, slots := 0, locals := 67 }) [.int x1] st sv n N tx hi (fun _ => True) := by
  obtain ⟨v1, g1, rfl⟩ := i_of x1
  have hI := hL.2.1
  have hT := hL.2.2.1
  have h0 := hI.1
  by_cases c1 : 1 ≤ v1 ∧ v1 ≤ 99
  · by_cases c2 : st 0 + v1 ≤ 9999
    · exact ⟨0, (passes st v1 5 - st 5), _, passes st v1, sN sv st n, recN n, N, tx, recH st hi n, (w_pass_ok l E (γ 0) o _ _ A _ _ CP_0 hoA CP_on (cp_W cp_bN (fun β ac fs fn hN => m_X5_pass_ok l E γ α β st sv (N : Int) ac tx fs fn hN n hL.1 9999 hI v1 c1 (by omega) c2))), (rp_W (fun th pa kd nm ke wy => m_X6_pass_ok l E ρ th (N : Int) pa kd nm st hi ke tx wy hρ n hL.1 9999 hI v1 c1 (by omega) c2)), (LI_rec hL (IB_passes2 hI v1 (by omega) 9999 (by omega)) (IT_passes hT (by omega) (by omega)) (hL.2.2.2.1)), fun _ => rfl, ⟨by decide, by decide⟩, trivial⟩
    · exact ⟨2, 0, 0, st, sv, n, N, tx, hi, (w_pass_x2 l E (γ 0) o _ noA _ _ A _ _ CP_0 hoA (fun _ h => h.elim) (fun H h => h) (fun H H1 h h1 h2 _ => CP_on _ _ h h1 (fun q hq _ => h2 q hq (fun z => z))) (x_cp (fun β ac fs fn hN => x_pass_2 l hl0 E γ α β st sv (n : Int) (N : Int) ac tx fs fn v1 c1 (by omega) c2))), (rp_W (fun th pa kd nm ke wy => m_X6_pass_bad2 l E ρ th (n : Int) (N : Int) pa kd nm st hi ke tx wy hρ v1 c1 (by omega) c2)), hL, fun h9 => absurd h9 (by decide), ⟨by decide, by decide⟩, trivial⟩
  · exact ⟨1, 0, 0, st, sv, n, N, tx, hi, (w_pass_x1 l E (γ 0) o _ noA _ _ A _ _ CP_0 hoA (fun _ h => h.elim) (fun H h => va_P_nil) (fun H H1 h h1 h2 _ => CP_on _ _ h h1 (fun q hq _ => h2 q hq (fun z => z))) (x_pass_1 l hl0 E (γ 0) v1 g1 c1)), (rp_W (fun th pa kd nm ke wy => m_X6_pass_bad1 l E ρ th (n : Int) (N : Int) pa kd nm st hi ke tx wy hρ v1 g1 c1)), hL, fun h9 => absurd h9 (by decide), ⟨by decide, by decide⟩, trivial⟩
set_option maxHeartbeats 400000 in
set_option maxRecDepth 100000 in
theorem op_append (l : Launch) (hl0 : l.stackTraces = false) (E : Env3) (γ α ρ : Nat → Nat) (o : Nat) (A : Nat → Prop) (hoA : ¬ A o) (hρ : dR ρ 6) (st : S) (sv : Nat → S) (n N : Nat) (tx hi : S) (hL : LI st sv n N tx hi) (x1 : Int32) : POp l E γ α ρ o A yL_append (Cond.codeWith yL_append cL_append 4 (some .int) [(0, 9, 12, 15), (0, 9, 15, 31)] :: ALL) yX6_append (Cond.code yX6_append cX6_append 2 (some .int) :: ALL) ({ frames := 1, cells := 0, slots := 0, locals := 22 }) [.int x1] st sv n N tx hi (fun _ => True) := by
  obtain ⟨v1, g1, rfl⟩ := i_of x1
  have hI := hL.2.1
  have hT := hL.2.2.1
  have h0 := hI.1
  by_cases c1 : 33 ≤ v1 ∧ v1 ≤ 126
  · by_cases c2 : N < 60
    · exact ⟨0, ((N + 1 : Nat) : Int), _, st, sv, n, N + 1, up tx N v1, hi, (w_append_ok l E (γ 0) o _ _ A _ _ CP_0 hoA CP_on (cp_W cp_id (fun β ac fs fn hN => m_X5_append_ok l E γ α β st sv N ac tx fs fn hN n hL.1 c2 v1 c1))), (rp_W (fun th pa kd nm ke wy => m_X6_append_ok l E ρ th (n : Int) pa kd nm st hi ke tx wy hρ N hL.2.2.2.1.1 v1 c1 c2)), ⟨hL.1, hI, hT, txB_add hL.2.2.2.1 c2 c1, hL.2.2.2.2⟩, fun _ => rfl, ⟨by decide, by decide⟩, trivial⟩
    · have e9 : N = 60 := by have := hL.2.2.2.1.1; omega
      subst e9
      exact ⟨2, 0, 0, st, sv, n, 60, tx, hi, (w_append_x2 l E (γ 0) o _ noA _ _ A _ _ CP_0 hoA (fun _ h => h.elim) (fun H h => h) (fun H H1 h h1 h2 _ => CP_on _ _ h h1 (fun q hq _ => h2 q hq (fun z => z))) (x_cp (fun β ac fs fn hN => x_append_2 l hl0 E γ α β st sv (n : Int) ((60 : Nat) : Int) ac tx fs fn v1 c1))), (rp_W (fun th pa kd nm ke wy => m_X6_append_bad2 l E ρ th (n : Int) pa kd nm st hi ke tx wy hρ 60 hL.2.2.2.1.1 v1 c1 rfl)), hL, fun h9 => absurd h9 (by decide), ⟨by decide, by decide⟩, trivial⟩
  · exact ⟨1, 0, 0, st, sv, n, N, tx, hi, (w_append_x1 l E (γ 0) o _ noA _ _ A _ _ CP_0 hoA (fun _ h => h.elim) (fun H h => va_P_nil) (fun H H1 h h1 h2 _ => CP_on _ _ h h1 (fun q hq _ => h2 q hq (fun z => z))) (x_append_1 l hl0 E (γ 0) v1 g1 c1)), (rp_W (fun th pa kd nm ke wy => m_X6_append_bad1 l E ρ th (n : Int) pa kd nm st hi ke tx wy hρ N hL.2.2.2.1.1 v1 g1 c1)), hL, fun h9 => absurd h9 (by decide), ⟨by decide, by decide⟩, trivial⟩
set_option maxHeartbeats 400000 in
set_option maxRecDepth 100000 in
theorem op_runActs (l : Launch) (hl0 : l.stackTraces = false) (E : Env3) (γ α ρ : Nat → Nat) (o : Nat) (A : Nat → Prop) (hoA : ¬ A o) (hρ : dR ρ 6) (st : S) (sv : Nat → S) (n N : Nat) (tx hi : S) (hL : LI st sv n N tx hi) : POp l E γ α ρ o A yL_runActs (Cond.codeWith yL_runActs cL_runActs 3 (some .int) [(0, 8, 11, 31)] :: ALL) yX6_runActs (Cond.code yX6_runActs cX6_runActs 3 (some .int) :: ALL) ({ frames := 7, cells := 0, slots := 0, locals := 156 }) [] st sv n N tx hi (fun _ => True) := by
  have hI := hL.2.1
  have hT := hL.2.2.1
  have h0 := hI.1
  have p9 := pm_text hL.2.2.2.1
  by_cases c1 : pmF N tx 0 (-1) (-1) = -1
  · have rk := run_keep (acF N tx 0 (-1) (-1)) st (acF_ok N tx 0 (-1) (-1) (Or.inl ⟨rfl, rfl⟩) c1) hI hT
    exact ⟨0, (runA (acF N tx 0 (-1) (-1)) st).2, _, (runA (acF N tx 0 (-1) (-1)) st).1, sN sv st n, recN n, 0, tx, recH st hi n, (w_runActs_ok l E (γ 0) o  _ A _ _ CP_0 hoA CP_on (cp_X cp_bN (fun β ac fs fn hN => m_X5_runActs_ok l E γ α β st sv N ac tx fs fn hN n hL.1 hL.2.2.2.1 hI c1))), (rp_X (fun th pa kd nm ke wy => m_X6_runActs_ok l E ρ th pa kd nm st hi ke tx wy hρ N hL.2.2.2.1 n hL.1 hI c1) (fun _ _ _ _ _ _ => ⟨_, _, _, _, _, rfl⟩)), (LI_rec hL (rk.1) (rk.2) (txB_0 tx)), fun _ => rfl, ⟨by decide, by decide⟩, trivial⟩
  · exact ⟨1, 0, 0, st, sv, n, N, tx, hi, (w_runActs_x1 l E (γ 0) o A _ _ A _ _ CP_0 hoA (fun _ h => h) (fun H h => h) (fun H H1 _ _ _ h => h) (x_cpA (fun β ac fs fn hN => x_runActs l hl0 E γ α β st sv (n : Int) N ac tx fs fn hN hL.2.2.2.1 c1 p9))), (rp_X (fun th pa kd nm ke wy => m_X6_runActs_bad l E ρ th (n : Int) pa kd nm st hi ke tx wy hρ N hL.2.2.2.1 c1 p9) (fun _ _ _ _ _ _ => ⟨_, _, _, _, _, rfl⟩)), hL, fun h9 => absurd h9 (by decide), ⟨by decide, by decide⟩, trivial⟩
set_option maxHeartbeats 400000 in
set_option maxRecDepth 100000 in
theorem op_undo (l : Launch) (hl0 : l.stackTraces = false) (E : Env3) (γ α ρ : Nat → Nat) (o : Nat) (A : Nat → Prop) (hoA : ¬ A o) (hρ : dR ρ 6) (st : S) (sv : Nat → S) (n N : Nat) (tx hi : S) (hL : LI st sv n N tx hi) : POp l E γ α ρ o A yL_undo (Cond.codeWith yL_undo cL_undo 3 (some .int) [(0, 8, 11, 31)] :: ALL) yX6_undo (Cond.code yX6_undo cX6_undo 1 (some .int) :: ALL) ({ frames := 1, cells := 0, slots := 0, locals := 24 }) [] st sv n N tx hi (fun _ => True) := by
  have hI := hL.2.1
  have hT := hL.2.2.1
  have h0 := hI.1
  rcases n with _ | k
  · exact ⟨1, 0, 0, st, sv, 0, N, tx, hi, (w_undo_x1 l E (γ 0) o  noA _ _ A _ _ CP_0 hoA (fun _ h => h.elim) (fun H h => h) (fun H H1 h h1 h2 _ => CP_on _ _ h h1 (fun q hq _ => h2 q hq (fun z => z))) (x_cp (fun β ac fs fn hN => x_undo l hl0 E γ α β st sv 0 (N : Int) ac tx fs fn))), (rp_W (fun th pa kd nm ke wy => m_X6_undo_bad l E ρ th (N : Int) pa kd nm st hi ke tx wy hρ)), hL, fun h9 => absurd h9 (by decide), ⟨by decide, by decide⟩, trivial⟩
  · have hk : k < 6 := by have := hL.1; omega
    have hs := hL.2.2.2.2.2 k (by omega)
    exact ⟨0, (k : Int), _, sv k, sv, k, N, tx, hi, (w_undo_ok l E (γ 0) o  _ A _ _ CP_0 hoA CP_on (cp_W cp_id (fun β ac fs fn hN => m_X5_undo_ok l E γ α β st sv (N : Int) ac tx fs fn hN k hk))), (rp_st (fun j hj => hL.2.2.2.2.1 k (by omega) j hj) (rp_W (fun th pa kd nm ke wy => m_X6_undo_ok l E ρ th (N : Int) pa kd nm st hi ke tx wy hρ k (by have := hL.1; omega)))), ⟨by omega, hs.1, hs.2, hL.2.2.2.1, fun i hi9 => hL.2.2.2.2.1 i (by omega), fun i hi9 => hL.2.2.2.2.2 i (by omega)⟩, fun _ => rfl, ⟨by decide, by decide⟩, trivial⟩
