/-! worlds side by side: the callee's cells lie in the middle -/
abbrev svS (E : Env3) (β : Nat → Nat → Nat) (sv : Nat → S) : va_W := stW E (β 0) (sv 0) ++ (stW E (β 1) (sv 1) ++ (stW E (β 2) (sv 2) ++ (stW E (β 3) (sv 3) ++ (stW E (β 4) (sv 4) ++ stW E (β 5) (sv 5)))))
theorem P_mid {D : va_G} {cl : List vw_C} {X Y Y1 Z : va_W} {H : Heap} (h : va_P D cl Y H → va_P D cl Y1 H) (hP : va_P D cl (X ++ (Y ++ Z)) H) : va_P D cl (X ++ (Y1 ++ Z)) H :=
  va_P.app (P_mono (fun _ hq => List.mem_append_left _ hq) hP) (va_P.app (h (P_mono (fun _ hq => List.mem_append_right _ (List.mem_append_left _ hq)) hP)) (P_mono (fun _ hq => List.mem_append_right _ (List.mem_append_right _ hq)) hP))
theorem pw_mid {E : Env3} {γ α : Nat → Nat} {β : Nat → Nat → Nat} {L : List Nat} {B : va_W} {st' : S} {sv : Nat → S} {n N ac : Int} {tx fs fn : S} {H : Heap} (h : va_P E.1 vwCl B H → va_P E.1 vwCl (stW E α st') H) (hP : va_P E.1 vwCl (hdW E γ (α 0) L n N ac tx fs fn ++ (B ++ svS E β sv)) H) : va_P E.1 vwCl (pWf E γ α β L st' sv n N ac tx fs fn) H := P_mid h hP
theorem P_med {A0 : Nat → Prop} {D : va_G} {cl : List vw_C} {X Y Y1 Z : va_W} {H H1 : Heap} (hP : va_P D cl (X ++ (Y ++ Z)) H) (hD : va_D A0 (X ++ (Y ++ Z))) (hk : ∀ q : Nat, q < H.size → ¬ adIn Y q → H1[q]? = H[q]?) (hP1 : va_P D cl Y1 H1) : va_P D cl (X ++ (Y1 ++ Z)) H1 := by
  have ofY : ∀ (j : Nat) (q : Nat × va_E), Y[j]? = some q → (X ++ (Y ++ Z))[X.length + j]? = some q := by
    intro j q hj
    have hl := (List.getElem?_eq_some_iff.mp hj).1
    rw [List.getElem?_append_right (by omega), show X.length + j - X.length = j by omega, List.getElem?_append_left hl]
    exact hj
  refine va_P.app (fun k q hq => ?_) (va_P.app hP1 (fun k q hq => ?_))
  · have hl := (List.getElem?_eq_some_iff.mp hq).1
    have h0 : (X ++ (Y ++ Z))[k]? = some q := by rw [List.getElem?_append_left hl]; exact hq
    refine (hP k q h0).kept (hk q.1 (hP k q h0).lt fun hin => ?_)
    obtain ⟨j, e, hj⟩ := hin
    have := hD.1 k (X.length + j) q (q.1, e) h0 (ofY j _ hj) rfl
    omega
  · have h0 : (X ++ (Y ++ Z))[X.length + (Y.length + k)]? = some q := by
      rw [List.getElem?_append_right (by omega), show X.length + (Y.length + k) - X.length = Y.length + k by omega, List.getElem?_append_right (by omega), show Y.length + k - Y.length = k by omega]
      exact hq
    refine (hP _ q h0).kept (hk q.1 (hP _ q h0).lt fun hin => ?_)
    obtain ⟨j, e, hj⟩ := hin
    have hl := (List.getElem?_eq_some_iff.mp hj).1
    have := hD.1 (X.length + (Y.length + k)) (X.length + j) q (q.1, e) h0 (ofY j _ hj) rfl
    omega
theorem mem_mid {X Y Z : va_W} : ∀ q ∈ Y, q ∈ X ++ (Y ++ Z) := fun _ hq => List.mem_append_right _ (List.mem_append_left _ hq)
section CM
variable {p : Program} {l : Launch} {e : Jvm.Env} {R : Room} {s : State} {m : MethodId} {args : Array Value} {below : List Frame} {meth : Method} {c : Code} {H : Heap} {locs : List Loc} {cells slots : Nat} {Q : State → Prop} {pc : Nat} {ls : Array Slot} {rest st0 : List Value} {E : Env3} {A : Nat → Prop} {H0 : Heap}
variable {v : Option Value} {aa : Array Value} {X Y Z : va_W}
theorem call_XM {σ : Type} {w1 : σ → va_W} (hr : va_Run p l e R s m args below meth c H locs cells slots 0 0 (F0 m pc ls st0) rest (qX v E Y w1 aa) (adIn Y)) (hP : va_P E.1 vwCl (X ++ (Y ++ Z)) H) (hD : va_D A (X ++ (Y ++ Z))) (hS : va_S A H0 H locs) {st1 : List Value} (h1 : v.toList ++ rest = st1)
    (kk : ∀ (g : σ) (H1 : Heap) (locs1 : List Loc), va_P E.1 vwCl (X ++ (w1 g ++ Z)) H1 → va_S A H0 H1 locs1 → W p l e R s m args below meth c H1 locs1 cells slots Q (F0 m (pc + 3) ls st1)) : W p l e R s m args below meth c H locs cells slots Q (F0 m pc ls st0) := by
  intro T hT W0
  obtain ⟨v', st₀, t, T', L, h0, X', hL, e1, e2, ⟨hv, ⟨g, hP1⟩, hz, hk⟩, st⟩ := hr T hT W0
  cases hv
  subst h1
  have hA : ∀ q, adIn Y q → A q := by
    intro q hq
    obtain ⟨i, e', hi⟩ := adIn_mono (mem_mid (X := X) (Z := Z)) hq
    exact hD.2 i _ hi
  rw [h0] at hz hk
  rw [← e1] at hP1 hz hk
  obtain ⟨t2, a1, b1⟩ := kk g T'.heap (locs ++ L) (P_med hP hD hk hP1)
    ⟨Nat.le_trans hS.1 hz, fun q h1 h2 => by rw [hk q (Nat.lt_of_lt_of_le h1 hS.1) (fun z => h2 (hA q z))]; exact hS.2.1 q h1 h2, fun q hq => by
      rcases List.mem_append.mp hq with h | h
      · exact hS.2.2 q h
      · exact hA _ (hL q h)⟩ T' rfl X'
  exact ⟨t2, st t2 a1, b1⟩
theorem call_M {Y1 : va_W} (hr : va_Run p l e R s m args below meth c H locs cells slots 0 0 (F0 m pc ls st0) rest (qW v E Y Y1 aa) (adIn Y)) (hP : va_P E.1 vwCl (X ++ (Y ++ Z)) H) (hD : va_D A (X ++ (Y ++ Z))) (hS : va_S A H0 H locs) {st1 : List Value} (h1 : v.toList ++ rest = st1)
    (kk : ∀ (H1 : Heap) (locs1 : List Loc), va_P E.1 vwCl (X ++ (Y1 ++ Z)) H1 → va_S A H0 H1 locs1 → W p l e R s m args below meth c H1 locs1 cells slots Q (F0 m (pc + 3) ls st1)) : W p l e R s m args below meth c H locs cells slots Q (F0 m pc ls st0) := by
  refine call_XM (σ := Unit) (w1 := fun _ => Y1) (v := v) (aa := aa) ?_ hP hD hS h1 (fun _ => kk)
  intro T hT W0
  obtain ⟨v', st₀, t, T', L, h0, X', hL, e1, e2, ⟨hv, hP1, hF⟩, st⟩ := hr T hT W0
  exact ⟨v', st₀, t, T', L, h0, X', hL, e1, e2, ⟨hv, ⟨(), hP1⟩, hF⟩, st⟩
end CM
theorem adP_in {E : Env3} {γ α : Nat → Nat} {β : Nat → Nat → Nat} {L : List Nat} {st : S} {sv : Nat → S} {n N ac : Int} {tx fs fn : S} {x : Nat} : x ∈ adP γ α β ↔ adIn (pWf E γ α β L st sv n N ac tx fs fn) x := by
  have h : adP γ α β = (pWf E γ α β L st sv n N ac tx fs fn).map (·.1) := rfl
  rw [h, List.mem_map]
  constructor
  · rintro ⟨q, hq, rfl⟩
    obtain ⟨i, hi⟩ := List.getElem?_of_mem hq
    exact ⟨i, q.2, hi⟩
  · rintro ⟨k, e, hk⟩
    exact ⟨(x, e), List.mem_of_getElem? hk, rfl⟩
theorem adP_rot {γ α : Nat → Nat} {β : Nat → Nat → Nat} {n x : Nat} : x ∈ adP γ α (bN β n) ↔ x ∈ adP γ α β := by
  unfold bN
  split
  · show x ∈ [γ 0, γ 1, γ 2, γ 3, γ 4, γ 5] ++ (_ ++ ((List.range 16).map (β 1) ++ ((List.range 16).map (β 2) ++ ((List.range 16).map (β 3) ++ ((List.range 16).map (β 4) ++ ((List.range 16).map (β 5) ++ (List.range 16).map (β 0))))))) ↔ _
    unfold adP
    generalize (List.range 16).map (β 0) = B0
    generalize (List.range 16).map (β 1) = B1
    generalize (List.range 16).map (β 2) = B2
    generalize (List.range 16).map (β 3) = B3
    generalize (List.range 16).map (β 4) = B4
    generalize (List.range 16).map (β 5) = B5
    rw [List.mem_append, List.mem_append, List.mem_append, List.mem_append, List.mem_append, List.mem_append, List.mem_append, List.mem_append, List.mem_append, List.mem_append, List.mem_append, List.mem_append, List.mem_append, List.mem_append]
    constructor
    · rintro (h | h | h | h | h | h | h | h) <;> simp [h]
    · rintro (h | h | h | h | h | h | h | h) <;> simp [h]
  · exact Iff.rfl
theorem D_bN {E : Env3} {γ α : Nat → Nat} {β : Nat → Nat → Nat} {L L1 : List Nat} {st st1 : S} {sv sv1 : Nat → S} {n N ac n1 N1 ac1 : Int} {tx fs fn tx1 fs1 fn1 : S} (h : ndP γ α β) (k : Nat) : va_D (adIn (pWf E γ α β L st sv n N ac tx fs fn)) (pWf E γ α (bN β k) L1 st1 sv1 n1 N1 ac1 tx1 fs1 fn1) :=
  (D_pW (ndP_bN h k)).weaken (fun _ q _ hq => adP_in.mp (adP_rot.mp (adP_in.mpr hq)))
theorem ndP_dR {γ α : Nat → Nat} {β : Nat → Nat → Nat} (h : ndP γ α β) : dR α 16 := by
  have h1 : ((List.range 16).map α).Nodup := (List.nodup_append.mp (List.nodup_append.mp h).2.1).1
  intro i j hi hj e
  have g1 : ((List.range 16).map α)[i]? = some (α i) := by rw [List.getElem?_map, List.getElem?_range hi]; rfl
  have g2 : ((List.range 16).map α)[j]? = some (α j) := by rw [List.getElem?_map, List.getElem?_range hj]; rfl
  exact (List.getElem?_inj (by rw [List.length_map, List.length_range]; exact hi) h1).mp (by rw [g1, g2, e])
