/-! the frames of both sides -/
theorem FrCh.a1 {σ τ : St} (h : FrCh σ τ) : FrA1 σ τ := fun k hk _ => ⟨funext (fun j => h.1 k j (by omega) (by omega) (by omega)), h.2.1 k (by omega) (by omega)⟩
theorem FrOt.a1 {σ τ : St} (h : FrOt σ τ) : FrA1 σ τ := fun k hk _ => ⟨funext (fun j => h.1 k j (by omega)), h.2.1 k (by omega)⟩
theorem FrI.a1 {σ τ : St} (h : FrI σ τ) : FrA1 σ τ := fun k hk _ => ⟨funext (fun j => h.1 k j (by omega)), h.2.1 k (by omega)⟩
theorem FrSv.a1 {σ τ : St} (h : FrSv σ τ) : FrA1 σ τ := fun k hk _ => ⟨h.1 k (by omega), h.2.1 k (by omega) (by omega)⟩
theorem FrS.a1 {p : Nat} {σ τ : St} (h : FrS p σ τ) (hp : p < 88) : FrA1 σ τ := fun k hk _ => ⟨h.1 k (by omega), h.2.1 k (by omega)⟩
