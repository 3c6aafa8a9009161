theorem LK_all (l : Launch) (G : pT) : ∀ z9 : Nat, PlookAt l G z9 ∧ Plook l G z9 ∧ Pwants l G z9 := by
  intro z9
  induction z9 with
  | zero => exact ⟨fun h0 a F B n9 fa sc k9 nd T nm wr lz dc fd md pr bk gh dn wt wf nc ty mn vn vt hst hnm hn9 hz hfa hsc hk9 hnc hmn hvt hkc => absurd hz (by omega), fun h0 a F B n9 fa sc k9 nd T nm wr lz dc fd md pr bk gh dn wt wf nc ty mn vn vt hst hnm hn9 hz hfa hsc hk9 hnc hmn hvt hkc => absurd hz (by omega), fun h0 a F B n9 fa sc k9 nd T nm wr lz dc fd md pr bk gh dn wt wf nc ty mn vn vt ta hst hnm hn9 hz hfa hsc hk9 hnc hmn hvt hkc hta => absurd hz (by omega)⟩
  | succ z9 ih =>
    have ihA : PlookAt l G (z9 + 1 - 1) := ih.1
    have ihL : Plook l G (z9 + 1 - 1) := ih.2.1
    have ihW : Pwants l G (z9 + 1 - 1) := ih.2.2
    have hA9 : PlookAt l G (z9 + 1) := fun h0 a F B n9 fa sc k9 nd T nm wr lz dc fd md pr bk gh dn wt wf nc ty mn vn vt hst hnm hn9 hz hfa hsc hk9 hnc hmn hvt hkc => L_lookAt l G h0 a F B n9 (z9 + 1) fa sc k9 nd T nm wr lz dc fd md pr bk gh dn wt wf nc ty mn vn vt hst hnm hn9 hz hfa hsc hk9 hnc hmn hvt hkc ihA ihL ihW
    have hL9 : Plook l G (z9 + 1) := fun h0 a F B n9 fa sc k9 nd T nm wr lz dc fd md pr bk gh dn wt wf nc ty mn vn vt hst hnm hn9 hz hfa hsc hk9 hnc hmn hvt hkc => L_look l G h0 a F B n9 (z9 + 1) fa sc k9 nd T nm wr lz dc fd md pr bk gh dn wt wf nc ty mn vn vt hst hnm hn9 hz hfa hsc hk9 hnc hmn hvt hkc hA9
    exact ⟨hA9, hL9, fun h0 a F B n9 fa sc k9 nd T nm wr lz dc fd md pr bk gh dn wt wf nc ty mn vn vt ta hst hnm hn9 hz hfa hsc hk9 hnc hmn hvt hkc hta => L_wants l G h0 a F B n9 (z9 + 1) fa sc k9 nd T nm wr lz dc fd md pr bk gh dn wt wf nc ty mn vn vt ta hst hnm hn9 hz hfa hsc hk9 hnc hmn hvt hkc hta hL9⟩
