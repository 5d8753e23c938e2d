theorem zAll : zStep Inv := ⟨st_cross, st_drop, st_take, st_letter, st_braid, st_count, st_end, st_first, st_second, st_twist, st_untwist, st_poke, st_unpoke, st_slide⟩
theorem Inv_0 : Inv (kC 0 i0 i0 0 i0 i0 0 i0 i0 i0 i0 i0 i0 l0 i0 i0 i0 i0 l0 i0 i0 0 1 (mT i0 i0 0 0 1 i0 0 0 0 i0 l0 l0 l0 i0 0 i0 i0 l0 i0)) :=
  Inv.of ⟨Nat.zero_le _, fun i hi => by omega, fun x hx => by omega, fun i hi => by omega, fun x hx => by omega⟩
    ⟨⟨Nat.zero_le _, fun i hi => by omega, fun x hx => by omega, fun i j hi => by omega, fun v => ⟨fun ⟨_, h, h1, _⟩ => by omega, fun ⟨_, h, h1, _⟩ => by omega⟩, Or.inr (Nat.le_refl _), bas_all (Nat.zero_le _) (by decide)⟩, fun i hi => by omega, fun x hx => by omega⟩
    ⟨Nat.zero_le _, fun i hi => by omega, fun i hi => by omega⟩ (fun d _ => ⟨0, by decide, rfl⟩)
