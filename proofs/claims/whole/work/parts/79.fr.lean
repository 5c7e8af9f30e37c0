/-! the frames of both sides -/
theorem FrX.a2 {σ τ : St} (h : FrX σ τ) : FrA2 σ τ := fun k hk => ⟨funext (fun j => h.1 k j (by omega)), h.2.1 k (by omega) (by omega)⟩
theorem FrMC.a2 {σ τ : St} (h : FrMC σ τ) : FrA2 σ τ := fun k hk => ⟨funext (fun j => h.1 k j (by omega)), h.2.1 k (by omega) (by omega)⟩
theorem FrMS.a2 {σ τ : St} (h : FrMS σ τ) : FrA2 σ τ := fun k hk => ⟨funext (fun j => h.1 k j (by omega)), h.2.1 k (by omega)⟩
theorem FrMO.a2 {σ τ : St} (h : FrMO σ τ) : FrA2 σ τ := fun k hk => ⟨funext (fun j => h.1 k j (by omega)), h.2.1 k (by omega)⟩
theorem FrMI.a2 {σ τ : St} (h : FrMI σ τ) : FrA2 σ τ := fun k hk => ⟨funext (fun j => h.1 k j (by omega)), h.2.1 k (by omega)⟩
theorem FrCh.a1 {σ τ : St} (h : FrCh σ τ) : FrA1 σ τ := fun k hk _ => ⟨funext (fun j => h.1 k j (by omega) (by omega) (by omega)), h.2.1 k (by omega) (by omega)⟩
theorem FrO.a1 {σ τ : St} (h : FrO σ τ) : FrA1 σ τ := fun k hk _ => ⟨funext (fun j => h.1 k j (by omega)), h.2.1 k (by omega)⟩
theorem FrI.a1 {σ τ : St} (h : FrI σ τ) : FrA1 σ τ := fun k hk _ => ⟨funext (fun j => h.1 k j (by omega)), h.2.1 k (by omega)⟩
theorem FrSv.a1 {σ τ : St} (h : FrSv σ τ) : FrA1 σ τ := fun k hk _ => ⟨h.1 k (by omega), h.2.1 k (by omega) (by omega)⟩
theorem FrS.a1 {p : Nat} {σ τ : St} (h : FrS p σ τ) (hp : p < 88) : FrA1 σ τ := fun k hk _ => ⟨h.1 k (by omega), h.2.1 k (by omega)⟩
theorem FrA1.long {σ τ : St} {x : Int64} (h : FrA1 σ τ) : FrA1 σ (stO τ 0 x) := h
theorem CL.long {σ : St} {a : Ab} {x : Int64} (h : CL σ a) : CL (stO σ 0 x) a := h.fr (fun _ _ => ⟨rfl, rfl⟩)
