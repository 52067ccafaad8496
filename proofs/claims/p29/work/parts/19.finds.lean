set_option linter.all false
def fr (c0 : Nat) (ks : List Nat) (σ σ' : Sg) : Prop := (∀ c, c ≠ c0 → σ' c = σ c) ∧ ∀ k, k ∉ ks → σ' c0 k = σ c0 k
theorem fr.rf {c0 : Nat} {ks : List Nat} {σ : Sg} : fr c0 ks σ σ := ⟨fun _ _ => rfl, fun _ _ => rfl⟩
theorem fr.tr {c0 : Nat} {ks : List Nat} {σ σ1 σ2 : Sg} (h : fr c0 ks σ σ1) (h2 : fr c0 ks σ1 σ2) : fr c0 ks σ σ2 := ⟨fun c hc => (h2.1 c hc).trans (h.1 c hc), fun k hk => (h2.2 k hk).trans (h.2 k hk)⟩
theorem fr.pu {c0 k : Nat} {ks : List Nat} {σ : Sg} {x : Int32} (hk : k ∈ ks) : fr c0 ks σ (pu σ c0 k x) := ⟨fun c hc => pu_ne hc, fun j hj => pu_un (fun q => hj (q.2 ▸ hk))⟩
theorem fr.up {c0 : Nat} {ks ks' : List Nat} {σ σ' : Sg} (h : fr c0 ks σ σ') (hs : ∀ k, k ∈ ks → k ∈ ks') : fr c0 ks' σ σ' := ⟨h.1, fun k hk => h.2 k (fun q => hk (hs k q))⟩
