/-! the class and the reference as what the heap holds: CP, RP; contracts told of them -/
def CP (E : Env3) (γ α : Nat → Nat) (A : Nat → Prop) (st : S) (sv : Nat → S) (n N : Nat) (tx : S) (H : Heap) : Prop :=
  ∃ (β : Nat → Nat → Nat) (ac : Int) (fs fn : S), ndP γ α β ∧ (∀ x, x ∈ adP γ α β ↔ A x) ∧ va_P E.1 vwCl (pW E γ α β st sv (n : Int) (N : Int) ac tx fs fn) H
theorem P_onA {A : Nat → Prop} {D : va_G} {cl : List vw_C} {ws : va_W} {H H1 : Heap} (hA : ∀ x, adIn ws x → A x) (hP : va_P D cl ws H) (h : ∀ q : Nat, q < H.size → A q → H1[q]? = H[q]?) : va_P D cl ws H1 :=
  fun k q hk => (hP k q hk).kept (h q.1 (hP k q hk).lt (hA _ ⟨k, q.2, hk⟩))
theorem CP_on {E : Env3} {γ α : Nat → Nat} {A : Nat → Prop} {st : S} {sv : Nat → S} {n N : Nat} {tx : S} : onA A (CP E γ α A st sv n N tx) := by
  rintro H H1 ⟨β, ac, fs, fn, hN, hA, hP⟩ _ hk
  exact ⟨β, ac, fs, fn, hN, hA, P_onA (fun x hx => (hA x).mp (adP_in.mpr hx)) hP hk⟩
theorem CP_0 {E : Env3} {γ α : Nat → Nat} {A : Nat → Prop} {st : S} {sv : Nat → S} {n N : Nat} {tx : S} : ∀ H, CP E γ α A st sv n N tx H → ∃ fs, va_at E.1 vwCl (γ 0, .inr (5, fs)) H := by
  rintro H ⟨β, ac, fs, fn, hN, hA, hP⟩
  exact ⟨_, hP 0 _ rfl⟩
section CPR
variable {l : Launch} {y : MethodName} {cs : List Cond} {rm : Room} {av : List Value} {E : Env3} {v : Option Value} {mc ms : Nat} {γ α : Nat → Nat} {A : Nat → Prop} {st st' : S} {sv sv' : Nat → S} {n n' N N' : Nat} {tx tx' : S}
theorem cp_W {f : (Nat → Nat → Nat) → Nat → Nat → Nat} (hf : ∀ β, ndP γ α β → ndP γ α (f β) ∧ ∀ x, x ∈ adP γ α (f β) ↔ x ∈ adP γ α β)
    (h : ∀ (β : Nat → Nat → Nat) (ac : Int) (fs fn : S), ndP γ α β → Met l y cs rm (pR av E (pW E γ α β st sv (n : Int) (N : Int) ac tx fs fn)) (qW v E (pW E γ α β st sv (n : Int) (N : Int) ac tx fs fn) (pW E γ α (f β) st' sv' (n' : Int) (N' : Int) ac tx' fs fn)) mc ms (adIn (pW E γ α β st sv (n : Int) (N : Int) ac tx fs fn))) :
    Met l y cs rm (pP av E (CP E γ α A st sv n N tx)) (qH v A (CP E γ α A st' sv' n' N' tx')) mc ms A := by
  intro p e h1 h2 h3 s m args below hf' ha hPc hK
  obtain ⟨e1, hKB, β, ac, fs, fn, hN, hA, hP⟩ := hPc
  obtain ⟨k, o, a, b, c, ⟨hq1, hq2, hz, hk⟩, L, hF, hL⟩ := h β ac fs fn hN p e h1 h2 h3 s m args below hf' ha ⟨e1, hP, hKB⟩ hK
  exact ⟨k, o, a, b, c, ⟨hq1, ⟨f β, ac, fs, fn, (hf β hN).1, fun x => ((hf β hN).2 x).trans (hA x), hq2⟩, hz, fun q g1 g2 => hk q g1 (fun g3 => g2 ((hA q).mp (adP_in.mpr g3)))⟩, L, hF, fun q g => (hA _).mp (adP_in.mpr (hL q g))⟩
theorem cp_bN {k : Nat} : ∀ β, ndP γ α β → ndP γ α (bN β k) ∧ ∀ x, x ∈ adP γ α (bN β k) ↔ x ∈ adP γ α β := fun β h => ⟨ndP_bN h k, fun x => adP_rot⟩
theorem cp_id : ∀ β, ndP γ α β → ndP γ α β ∧ ∀ x, x ∈ adP γ α β ↔ x ∈ adP γ α β := fun β h => ⟨h, fun x => Iff.rfl⟩
theorem cp_X {P : Nat × S × S → Prop} {f : (Nat → Nat → Nat) → Nat → Nat → Nat} (hf : ∀ β, ndP γ α β → ndP γ α (f β) ∧ ∀ x, x ∈ adP γ α (f β) ↔ x ∈ adP γ α β)
    (h : ∀ (β : Nat → Nat → Nat) (ac : Int) (fs fn : S), ndP γ α β → Met l y cs rm (pR av E (pW E γ α β st sv (n : Int) (N : Int) ac tx fs fn)) (qX v E (pW E γ α β st sv (n : Int) (N : Int) ac tx fs fn) (fun (g : {g : Nat × S × S // P g}) => pW E γ α (f β) st' sv' (n' : Int) (N' : Int) (g.1.1 : Int) tx' g.1.2.1 g.1.2.2)) mc ms (adIn (pW E γ α β st sv (n : Int) (N : Int) ac tx fs fn))) :
    Met l y cs rm (pP av E (CP E γ α A st sv n N tx)) (qH v A (CP E γ α A st' sv' n' N' tx')) mc ms A := by
  intro p e h1 h2 h3 s m args below hf' ha hPc hK
  obtain ⟨e1, hKB, β, ac, fs, fn, hN, hA, hP⟩ := hPc
  obtain ⟨k, o, a, b, c, ⟨hq1, ⟨g, hq2⟩, hz, hk⟩, L, hF, hL⟩ := h β ac fs fn hN p e h1 h2 h3 s m args below hf' ha ⟨e1, hP, hKB⟩ hK
  exact ⟨k, o, a, b, c, ⟨hq1, ⟨f β, _, _, _, (hf β hN).1, fun x => ((hf β hN).2 x).trans (hA x), hq2⟩, hz, fun q g1 g2 => hk q g1 (fun g3 => g2 ((hA q).mp (adP_in.mpr g3)))⟩, L, hF, fun q g => (hA _).mp (adP_in.mpr (hL q g))⟩
theorem cp_S (h : Met l y cs rm (pR av E (fcW E α (γ 0) (γ 1) (γ 2) (n : Int) st)) (qS v) mc ms (fun _ => False)) :
    Met l y cs rm (pP av E (CP E γ α A st sv n N tx)) (qH v A (CP E γ α A st sv n N tx)) mc ms A := by
  intro p e h1 h2 h3 s m args below hf' ha hPc hK
  obtain ⟨e1, hKB, β, ac, fs, fn, hN, hA, hP⟩ := hPc
  obtain ⟨k, o, a, b, c, ⟨hq1, hq2⟩, L, hF, hL⟩ := h p e h1 h2 h3 s m args below hf' ha ⟨e1, P_mono fc_mem hP, hKB⟩ hK
  exact ⟨k, o, a, b, c, ⟨hq1, by rw [hq2]; exact ⟨β, ac, fs, fn, hN, hA, hP⟩, by rw [hq2]; exact Nat.le_refl _, fun q _ _ => by rw [hq2]⟩, L, hF, fun q g => (hL q g).elim⟩
variable {ρ : Nat → Nat} {hi hi' : S} {th' : Int}
end CPR
