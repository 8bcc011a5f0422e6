/-! the class and the reference as what the heap holds: CP, RP; contracts told of them -/
def CP (E : Env3) (γ α : Nat → Nat) (A : Nat → Prop) (st : S) (sv : Nat → S) (n N : Nat) (tx : S) (H : Heap) : Prop :=
  ∃ (β : Nat → Nat → Nat) (ac : Int) (fs fn : S), ndP γ α β ∧ (∀ x, x ∈ adP γ α β ↔ A x) ∧ va_P E.1 vwCl (pW E γ α β st sv (n : Int) (N : Int) ac tx fs fn) H
def RP (E : Env3) (ρ : Nat → Nat) (th : Int) (st hi : S) (n N : Nat) (tx : S) (H : Heap) : Prop :=
  ∃ (pa kd nm : Int) (ke wy : S), va_P E.1 vwCl (refW E ρ th (n : Int) (N : Int) pa kd nm st hi ke tx wy) H
def RPa (E : Env3) (ρ : Nat → Nat) (st hi : S) (n N : Nat) (tx : S) (H : Heap) : Prop := ∃ th, RP E ρ th st hi n N tx H
def adR (ρ : Nat → Nat) (x : Nat) : Prop := ∃ i, i < 6 ∧ x = ρ i
theorem adR_in {E : Env3} {ρ : Nat → Nat} {th rc tl pa kd nm : Int} {st hi ke tx wy : S} {x : Nat} : adIn (refW E ρ th rc tl pa kd nm st hi ke tx wy) x ↔ adR ρ x := by
  constructor
  · rintro ⟨k, e, hk⟩
    rcases k with _ | _ | _ | _ | _ | _ | k <;> simp at hk
    · exact ⟨0, by omega, hk.1.symm⟩
    · exact ⟨1, by omega, hk.1.symm⟩
    · exact ⟨2, by omega, hk.1.symm⟩
    · exact ⟨3, by omega, hk.1.symm⟩
    · exact ⟨4, by omega, hk.1.symm⟩
    · exact ⟨5, by omega, hk.1.symm⟩
  · rintro ⟨i, hi, rfl⟩
    rcases i with _ | _ | _ | _ | _ | _ | i
    · exact ⟨0, _, rfl⟩
    · exact ⟨1, _, rfl⟩
    · exact ⟨2, _, rfl⟩
    · exact ⟨3, _, rfl⟩
    · exact ⟨4, _, rfl⟩
    · exact ⟨5, _, rfl⟩
    · omega
theorem P_onA {A : Nat → Prop} {D : va_G} {cl : List vw_C} {ws : va_W} {H H1 : Heap} (hA : ∀ x, adIn ws x → A x) (hP : va_P D cl ws H) (h : ∀ q : Nat, q < H.size → A q → H1[q]? = H[q]?) : va_P D cl ws H1 :=
  fun k q hk => (hP k q hk).kept (h q.1 (hP k q hk).lt (hA _ ⟨k, q.2, hk⟩))
theorem CP_on {E : Env3} {γ α : Nat → Nat} {A : Nat → Prop} {st : S} {sv : Nat → S} {n N : Nat} {tx : S} : onA A (CP E γ α A st sv n N tx) := by
  rintro H H1 ⟨β, ac, fs, fn, hN, hA, hP⟩ _ hk
  exact ⟨β, ac, fs, fn, hN, hA, P_onA (fun x hx => (hA x).mp (adP_in.mpr hx)) hP hk⟩
theorem RP_on {E : Env3} {ρ : Nat → Nat} {th : Int} {st hi : S} {n N : Nat} {tx : S} : onA (adR ρ) (RP E ρ th st hi n N tx) := by
  rintro H H1 ⟨pa, kd, nm, ke, wy, hP⟩ _ hk
  exact ⟨pa, kd, nm, ke, wy, P_onA (fun x hx => adR_in.mp hx) hP hk⟩
theorem RPa_on {E : Env3} {ρ : Nat → Nat} {st hi : S} {n N : Nat} {tx : S} : onA (adR ρ) (RPa E ρ st hi n N tx) := by
  rintro H H1 ⟨th, h⟩ h1 hk
  exact ⟨th, RP_on H H1 h h1 hk⟩
theorem CP_0 {E : Env3} {γ α : Nat → Nat} {A : Nat → Prop} {st : S} {sv : Nat → S} {n N : Nat} {tx : S} : ∀ H, CP E γ α A st sv n N tx H → ∃ fs, va_at E.1 vwCl (γ 0, .inr (5, fs)) H := by
  rintro H ⟨β, ac, fs, fn, hN, hA, hP⟩
  exact ⟨_, hP 0 _ rfl⟩
theorem RPa_0 {E : Env3} {ρ : Nat → Nat} {st hi : S} {n N : Nat} {tx : S} : ∀ H, RPa E ρ st hi n N tx H → ∃ fs, va_at E.1 vwCl (ρ 0, .inr (6, fs)) H := by
  rintro H ⟨th, pa, kd, nm, ke, wy, hP⟩
  exact ⟨_, hP 0 _ rfl⟩
section CPR
variable {l : Launch} {y : MethodName} {cs : List Cond} {rm : Room} {av : List Value} {E : Env3} {v : Option Value} {mc ms : Nat} {γ α : Nat → Nat} {A : Nat → Prop} {st st' : S} {sv sv' : Nat → S} {n n' N N' : Nat} {tx tx' : S}
theorem cp_W {f : (Nat → Nat → Nat) → Nat → Nat → Nat} (hf : ∀ β, ndP γ α β → ndP γ α (f β) ∧ ∀ x, x ∈ adP γ α (f β) ↔ x ∈ adP γ α β)
    (h : ∀ (β : Nat → Nat → Nat) (ac : Int) (fs fn : S), ndP γ α β → Met l y cs rm (pR av E (pW E γ α β st sv (n : Int) (N : Int) ac tx fs fn)) (qW v E (pW E γ α β st sv (n : Int) (N : Int) ac tx fs fn) (pW E γ α (f β) st' sv' (n' : Int) (N' : Int) ac tx' fs fn)) mc ms (adIn (pW E γ α β st sv (n : Int) (N : Int) ac tx fs fn))) :
    Met l y cs rm (pP av E (CP E γ α A st sv n N tx)) (qH v A (CP E γ α A st' sv' n' N' tx')) mc ms A := by
  intro p e h1 h2 h3 s m args below hf' ha hPc hK
  obtain ⟨e1, hKB, β, ac, fs, fn, hN, hA, hP⟩ := hPc
  obtain ⟨k, o, a, b, c, ⟨hq1, hq2, hz, hk⟩, L, hF, hL⟩ := h β ac fs fn hN p e h1 h2 h3 s m args below hf' ha ⟨e1, hP, hKB⟩ hK
  exact ⟨k, o, a, b, c, ⟨hq1, ⟨f β, ac, fs, fn, (hf β hN).1, fun x => ((hf β hN).2 x).trans (hA x), hq2⟩, hz, fun q g1 g2 => hk q g1 (fun g3 => g2 ((hA q).mp (adP_in.mpr g3)))⟩, L, hF, fun q g => (hA _).mp (adP_in.mpr (hL q g))⟩
theorem cp_bN {k : Nat} : ∀ β, ndP γ α β → ndP γ α (bN β k) ∧ ∀ x, x ∈ adP γ α (bN β k) ↔ x ∈ adP γ α β := fun β h => ⟨ndP_bN h k, fun x => adP_rot⟩
theorem cp_id : ∀ β, ndP γ α β → ndP γ α β ∧ ∀ x, x ∈ adP γ α β ↔ x ∈ adP γ α β := fun β h => ⟨h, fun x => Iff.rfl⟩
theorem cp_X {P : Nat × S × S → Prop} {f : (Nat → Nat → Nat) → Nat → Nat → Nat} (hf : ∀ β, ndP γ α β → ndP γ α (f β) ∧ ∀ x, x ∈ adP γ α (f β) ↔ x ∈ adP γ α β)
    (h : ∀ (β : Nat → Nat → Nat) (ac : Int) (fs fn : S), ndP γ α β → Met l y cs rm (pR av E (pW E γ α β st sv (n : Int) (N : Int) ac tx fs fn)) (qX v E (pW E γ α β st sv (n : Int) (N : Int) ac tx fs fn) (fun (g : {g : Nat × S × S // P g}) => pW E γ α (f β) st' sv' (n' : Int) (N' : Int) (g.1.1 : Int) tx' g.1.2.1 g.1.2.2)) mc ms (adIn (pW E γ α β st sv (n : Int) (N : Int) ac tx fs fn))) :
    Met l y cs rm (pP av E (CP E γ α A st sv n N tx)) (qH v A (CP E γ α A st' sv' n' N' tx')) mc ms A := by
  intro p e h1 h2 h3 s m args below hf' ha hPc hK
  obtain ⟨e1, hKB, β, ac, fs, fn, hN, hA, hP⟩ := hPc
  obtain ⟨k, o, a, b, c, ⟨hq1, ⟨g, hq2⟩, hz, hk⟩, L, hF, hL⟩ := h β ac fs fn hN p e h1 h2 h3 s m args below hf' ha ⟨e1, hP, hKB⟩ hK
  exact ⟨k, o, a, b, c, ⟨hq1, ⟨f β, _, _, _, (hf β hN).1, fun x => ((hf β hN).2 x).trans (hA x), hq2⟩, hz, fun q g1 g2 => hk q g1 (fun g3 => g2 ((hA q).mp (adP_in.mpr g3)))⟩, L, hF, fun q g => (hA _).mp (adP_in.mpr (hL q g))⟩
theorem cp_S (h : Met l y cs rm (pR av E (fcW E α (γ 0) (γ 1) (γ 2) (n : Int) st)) (qS v) mc ms (fun _ => False)) :
    Met l y cs rm (pP av E (CP E γ α A st sv n N tx)) (qH v A (CP E γ α A st sv n N tx)) mc ms A := by
  intro p e h1 h2 h3 s m args below hf' ha hPc hK
  obtain ⟨e1, hKB, β, ac, fs, fn, hN, hA, hP⟩ := hPc
  obtain ⟨k, o, a, b, c, ⟨hq1, hq2⟩, L, hF, hL⟩ := h p e h1 h2 h3 s m args below hf' ha ⟨e1, P_mono fc_mem hP, hKB⟩ hK
  exact ⟨k, o, a, b, c, ⟨hq1, by rw [hq2]; exact ⟨β, ac, fs, fn, hN, hA, hP⟩, by rw [hq2]; exact Nat.le_refl _, fun q _ _ => by rw [hq2]⟩, L, hF, fun q g => (hL q g).elim⟩
variable {ρ : Nat → Nat} {hi hi' : S} {th' : Int}
theorem rp_W (h : ∀ (th pa kd nm : Int) (ke wy : S), Met l y cs rm (pR av E (refW E ρ th (n : Int) (N : Int) pa kd nm st hi ke tx wy)) (qW v E (refW E ρ th (n : Int) (N : Int) pa kd nm st hi ke tx wy) (refW E ρ th' (n' : Int) (N' : Int) pa kd nm st' hi' ke tx' wy)) mc ms (adIn (refW E ρ th (n : Int) (N : Int) pa kd nm st hi ke tx wy))) :
    Met l y cs rm (pP av E (RPa E ρ st hi n N tx)) (qH v (adR ρ) (RP E ρ th' st' hi' n' N' tx')) mc ms (adR ρ) := by
  intro p e h1 h2 h3 s m args below hf' ha hPc hK
  obtain ⟨e1, hKB, th, pa, kd, nm, ke, wy, hP⟩ := hPc
  obtain ⟨k, o, a, b, c, ⟨hq1, hq2, hz, hk⟩, L, hF, hL⟩ := h th pa kd nm ke wy p e h1 h2 h3 s m args below hf' ha ⟨e1, hP, hKB⟩ hK
  exact ⟨k, o, a, b, c, ⟨hq1, ⟨pa, kd, nm, ke, wy, hq2⟩, hz, fun q g1 g2 => hk q g1 (fun g3 => g2 (adR_in.mp g3))⟩, L, hF, fun q g => adR_in.mp (hL q g)⟩
theorem rp_X {σ : Type} {w1 : Int → Int → Int → S → S → σ → va_W} (h : ∀ (th pa kd nm : Int) (ke wy : S), Met l y cs rm (pR av E (refW E ρ th (n : Int) (N : Int) pa kd nm st hi ke tx wy)) (qX v E (refW E ρ th (n : Int) (N : Int) pa kd nm st hi ke tx wy) (w1 pa kd nm ke wy)) mc ms (adIn (refW E ρ th (n : Int) (N : Int) pa kd nm st hi ke tx wy)))
    (hw : ∀ pa kd nm ke wy g, ∃ (pa' kd' nm' : Int) (ke' wy' : S), w1 pa kd nm ke wy g = refW E ρ th' (n' : Int) (N' : Int) pa' kd' nm' st' hi' ke' tx' wy') :
    Met l y cs rm (pP av E (RPa E ρ st hi n N tx)) (qH v (adR ρ) (RP E ρ th' st' hi' n' N' tx')) mc ms (adR ρ) := by
  intro p e h1 h2 h3 s m args below hf' ha hPc hK
  obtain ⟨e1, hKB, th, pa, kd, nm, ke, wy, hP⟩ := hPc
  obtain ⟨k, o, a, b, c, ⟨hq1, ⟨g, hq2⟩, hz, hk⟩, L, hF, hL⟩ := h th pa kd nm ke wy p e h1 h2 h3 s m args below hf' ha ⟨e1, hP, hKB⟩ hK
  obtain ⟨pa', kd', nm', ke', wy', e9⟩ := hw pa kd nm ke wy g
  rw [e9] at hq2
  exact ⟨k, o, a, b, c, ⟨hq1, ⟨pa', kd', nm', ke', wy', hq2⟩, hz, fun q g1 g2 => hk q g1 (fun g3 => g2 (adR_in.mp g3))⟩, L, hF, fun q g => adR_in.mp (hL q g)⟩
/-- the same, of another function that is the same at the cells -/
theorem rp_st {st'' : S} (hs : ∀ j, j < 252 → st' j = st'' j) (h : Met l y cs rm (pP av E (RPa E ρ st hi n N tx)) (qH v (adR ρ) (RP E ρ th' st' hi' n' N' tx')) mc ms (adR ρ)) : Met l y cs rm (pP av E (RPa E ρ st hi n N tx)) (qH v (adR ρ) (RP E ρ th' st'' hi' n' N' tx')) mc ms (adR ρ) := by
  intro p e h1 h2 h3 s m args below hf' ha hPc hK
  obtain ⟨k, o, a, b, c, ⟨hq1, ⟨pa, kd, nm, ke, wy, hq2⟩, hz⟩, hR⟩ := h p e h1 h2 h3 s m args below hf' ha hPc hK
  exact ⟨k, o, a, b, c, ⟨hq1, ⟨pa, kd, nm, ke, wy, ref_st hs hq2⟩, hz⟩, hR⟩
end CPR
/-- what both hold, and how -/
def LI (st : S) (sv : Nat → S) (n N : Nat) (tx hi : S) : Prop := n ≤ 6 ∧ IB 9999 st ∧ IT st ∧ txB N tx ∧ histR hi sv n ∧ svOk sv n
theorem LI_rec {st st' : S} {sv : Nat → S} {n N N' : Nat} {tx tx' hi : S} (h : LI st sv n N tx hi) (h1 : IB 9999 st') (h2 : IT st') (h3 : txB N' tx') : LI st' (sN sv st n) (recN n) N' tx' (recH st hi n) :=
  ⟨recN_le h.1, h1, h2, h3, histR_s h.2.2.2.2.1 h.1, svOk_s h.2.2.2.2.2 h.2.1 h.2.2.1 h.1⟩
