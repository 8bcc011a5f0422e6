/-! a constructor called from a constructor -/
theorem P_new {A : Nat → Prop} {D : va_G} {cl : List vw_C} {X Y Y1 : va_W} {H : Heap} (hP : va_P D cl (X ++ Y) H) (hD : va_D A (X ++ Y)) (hA : ∀ q, H.size ≤ q → A q) (hD1 : va_D (fun q => adIn Y q ∨ H.size ≤ q) Y1) : va_D A (X ++ Y1) := by
  have hX : ∀ (k : Nat) (q : Nat × va_E), X[k]? = some q → (X ++ Y)[k]? = some q := fun k q hq => by rw [List.getElem?_append_left (List.getElem?_eq_some_iff.mp hq).1]; exact hq
  have hY : ∀ (k : Nat) (q : Nat × va_E), Y[k]? = some q → (X ++ Y)[X.length + k]? = some q := fun k q hq => by rw [List.getElem?_append_right (by omega), show X.length + k - X.length = k by omega]; exact hq
  refine va_D.app ⟨fun i j p q hp hq => hD.1 i j p q (hX i p hp) (hX j q hq), fun k q hk => hD.2 k q (hX k q hk)⟩ (hD1.weaken (fun k q _ h => ?_)) (fun i j p q hp hq e => ?_)
  · rcases h with ⟨j, e, hj⟩ | h
    · have h9 := hD.2 _ (q.1, e) (hY j _ hj)
      exact h9
    · exact hA _ h
  · rcases hD1.2 j q hq with ⟨k, e', hk⟩ | h
    · have := hD.1 _ _ _ _ (hX i p hp) (hY k _ hk) e
      have := (List.getElem?_eq_some_iff.mp hp).1
      omega
    · have := (hP i p (hX i p hp)).lt
      rw [e] at this
      omega
theorem call_N {p : Program} {l : Launch} {e : Jvm.Env} {R : Room} {s : State} {m : MethodId} {args : Array Value} {below : List Frame} {meth : Method} {c : Code} {H : Heap} {locs : List Loc} {cells slots mc ms : Nat} {Q : State → Prop} {pc : Nat} {ls : Array Slot} {rest st0 : List Value} {E : Env3} {A : Nat → Prop} {H0 : Heap}
    {v : Option Value} {aa : Array Value} {X Y : va_W} {σ : Type} {w1 : σ → va_W} (hr : va_Run p l e R s m args below meth c H locs cells slots mc ms (F0 m pc ls st0) rest (qN v E Y w1 aa) (adIn Y)) (hP : va_P E.1 vwCl (X ++ Y) H) (hD : va_D A (X ++ Y)) (hS : va_S A H0 H locs) (hA : ∀ q, H0.size ≤ q → A q) {st1 : List Value} (h1 : v.toList ++ rest = st1)
    (kk : ∀ (g : σ) (H1 : Heap) (locs1 : List Loc), va_P E.1 vwCl (X ++ w1 g) H1 → va_D A (X ++ w1 g) → va_S A H0 H1 locs1 → W p l e R s m args below meth c H1 locs1 (cells + mc) (slots + ms) Q (F0 m (pc + 3) ls st1)) : W p l e R s m args below meth c H locs cells slots Q (F0 m pc ls st0) := by
  intro T hT W0
  obtain ⟨v', st₀, t, T', L, h0, X', hL, e1, e2, ⟨hv, ⟨g, hP1, hD1⟩, hz, hk⟩, st⟩ := hr T hT W0
  cases hv
  subst h1
  have hA1 : ∀ q, adIn Y q → A q := by
    intro q hq
    obtain ⟨i, e', hi⟩ := adIn_mono (fun q hq => List.mem_append_right X hq) hq
    exact hD.2 i _ hi
  rw [h0] at hz hk hD1
  rw [← e1] at hP1 hz hk
  obtain ⟨t2, a1, b1⟩ := kk g T'.heap (locs ++ L) (P_suf hP hD hk hP1) (P_new hP hD (fun q h => hA q (Nat.le_trans hS.1 h)) hD1)
    ⟨Nat.le_trans hS.1 hz, fun q h1 h2 => by rw [hk q (Nat.lt_of_lt_of_le h1 hS.1) (fun z => h2 (hA1 q z))]; exact hS.2.1 q h1 h2, fun q hq => by
      rcases List.mem_append.mp hq with h | h
      · exact hS.2.2 q h
      · exact hA1 _ (hL q h)⟩ T' rfl X'
  exact ⟨t2, st t2 a1, b1⟩
