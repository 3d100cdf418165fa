/-! the model reads a law: words, signs, the pile -/

set_option maxRecDepth 20000 in
theorem bX11_atom_0 {X : zX} {dep bc bs : Nat} {g : zH} {Q : Nat → zH → List zV → Prop} (hdep : 1 ≤ dep)
    (k1 : ¬ (g 169 49 = 1 ∧ g 169 56 = 30787916635137380) → ¬ (g 169 49 = 1 ∧ g 169 56 = 126870791090028) → ¬ (g 169 49 = 1 ∧ g 169 56 = 448444786035) → ¬ (g 169 49 = 1 ∧ g 169 56 = 1936682085) → ¬ (g 169 49 = 1 ∧ g 169 56 = 6383461) → ¬ (g 169 49 = 1 ∧ g 169 56 = 500135191653) → ¬ (g 169 49 = 1 ∧ g 169 56 = 7163091121595377006) → ¬ (g 169 49 = 1 ∧ g 169 56 = 114784769370228) → ¬ (g 169 49 = 1 ∧ g 169 56 = 444300616805) → ¬ (g 169 49 = 1 ∧ g 169 56 = 7093854908820320883) → ¬ (g 169 49 = 1 ∧ g 169 56 = 32481164609023591) → ¬ (g 169 49 = 1 ∧ g 169 56 = 123563833652072) → Q 239 g [xI (-1)])
    (k2 : ¬ (g 169 49 = 1 ∧ g 169 56 = 30787916635137380) → ¬ (g 169 49 = 1 ∧ g 169 56 = 126870791090028) → ¬ (g 169 49 = 1 ∧ g 169 56 = 448444786035) → ¬ (g 169 49 = 1 ∧ g 169 56 = 1936682085) → ¬ (g 169 49 = 1 ∧ g 169 56 = 6383461) → ¬ (g 169 49 = 1 ∧ g 169 56 = 500135191653) → ¬ (g 169 49 = 1 ∧ g 169 56 = 7163091121595377006) → ¬ (g 169 49 = 1 ∧ g 169 56 = 114784769370228) → ¬ (g 169 49 = 1 ∧ g 169 56 = 444300616805) → ¬ (g 169 49 = 1 ∧ g 169 56 = 7093854908820320883) → ¬ (g 169 49 = 1 ∧ g 169 56 = 32481164609023591) → g 169 49 = 1 ∧ g 169 56 = 123563833652072 → Q 239 g [xI 11])
    (k3 : ¬ (g 169 49 = 1 ∧ g 169 56 = 30787916635137380) → ¬ (g 169 49 = 1 ∧ g 169 56 = 126870791090028) → ¬ (g 169 49 = 1 ∧ g 169 56 = 448444786035) → ¬ (g 169 49 = 1 ∧ g 169 56 = 1936682085) → ¬ (g 169 49 = 1 ∧ g 169 56 = 6383461) → ¬ (g 169 49 = 1 ∧ g 169 56 = 500135191653) → ¬ (g 169 49 = 1 ∧ g 169 56 = 7163091121595377006) → ¬ (g 169 49 = 1 ∧ g 169 56 = 114784769370228) → ¬ (g 169 49 = 1 ∧ g 169 56 = 444300616805) → ¬ (g 169 49 = 1 ∧ g 169 56 = 7093854908820320883) → g 169 49 = 1 ∧ g 169 56 = 32481164609023591 → Q 239 g [xI 10])
    (k4 : ¬ (g 169 49 = 1 ∧ g 169 56 = 30787916635137380) → ¬ (g 169 49 = 1 ∧ g 169 56 = 126870791090028) → ¬ (g 169 49 = 1 ∧ g 169 56 = 448444786035) → ¬ (g 169 49 = 1 ∧ g 169 56 = 1936682085) → ¬ (g 169 49 = 1 ∧ g 169 56 = 6383461) → ¬ (g 169 49 = 1 ∧ g 169 56 = 500135191653) → ¬ (g 169 49 = 1 ∧ g 169 56 = 7163091121595377006) → ¬ (g 169 49 = 1 ∧ g 169 56 = 114784769370228) → ¬ (g 169 49 = 1 ∧ g 169 56 = 444300616805) → g 169 49 = 1 ∧ g 169 56 = 7093854908820320883 → Q 239 g [xI 9])
    (k5 : ¬ (g 169 49 = 1 ∧ g 169 56 = 30787916635137380) → ¬ (g 169 49 = 1 ∧ g 169 56 = 126870791090028) → ¬ (g 169 49 = 1 ∧ g 169 56 = 448444786035) → ¬ (g 169 49 = 1 ∧ g 169 56 = 1936682085) → ¬ (g 169 49 = 1 ∧ g 169 56 = 6383461) → ¬ (g 169 49 = 1 ∧ g 169 56 = 500135191653) → ¬ (g 169 49 = 1 ∧ g 169 56 = 7163091121595377006) → ¬ (g 169 49 = 1 ∧ g 169 56 = 114784769370228) → g 169 49 = 1 ∧ g 169 56 = 444300616805 → Q 239 g [xI 8])
    (k6 : ¬ (g 169 49 = 1 ∧ g 169 56 = 30787916635137380) → ¬ (g 169 49 = 1 ∧ g 169 56 = 126870791090028) → ¬ (g 169 49 = 1 ∧ g 169 56 = 448444786035) → ¬ (g 169 49 = 1 ∧ g 169 56 = 1936682085) → ¬ (g 169 49 = 1 ∧ g 169 56 = 6383461) → ¬ (g 169 49 = 1 ∧ g 169 56 = 500135191653) → ¬ (g 169 49 = 1 ∧ g 169 56 = 7163091121595377006) → g 169 49 = 1 ∧ g 169 56 = 114784769370228 → Q 239 g [xI 7])
    (k7 : ¬ (g 169 49 = 1 ∧ g 169 56 = 30787916635137380) → ¬ (g 169 49 = 1 ∧ g 169 56 = 126870791090028) → ¬ (g 169 49 = 1 ∧ g 169 56 = 448444786035) → ¬ (g 169 49 = 1 ∧ g 169 56 = 1936682085) → ¬ (g 169 49 = 1 ∧ g 169 56 = 6383461) → ¬ (g 169 49 = 1 ∧ g 169 56 = 500135191653) → g 169 49 = 1 ∧ g 169 56 = 7163091121595377006 → Q 239 g [xI 6])
    (k8 : ¬ (g 169 49 = 1 ∧ g 169 56 = 30787916635137380) → ¬ (g 169 49 = 1 ∧ g 169 56 = 126870791090028) → ¬ (g 169 49 = 1 ∧ g 169 56 = 448444786035) → ¬ (g 169 49 = 1 ∧ g 169 56 = 1936682085) → ¬ (g 169 49 = 1 ∧ g 169 56 = 6383461) → g 169 49 = 1 ∧ g 169 56 = 500135191653 → Q 239 g [xI 5])
    (k9 : ¬ (g 169 49 = 1 ∧ g 169 56 = 30787916635137380) → ¬ (g 169 49 = 1 ∧ g 169 56 = 126870791090028) → ¬ (g 169 49 = 1 ∧ g 169 56 = 448444786035) → ¬ (g 169 49 = 1 ∧ g 169 56 = 1936682085) → g 169 49 = 1 ∧ g 169 56 = 6383461 → Q 239 g [xI 4])
    (k10 : ¬ (g 169 49 = 1 ∧ g 169 56 = 30787916635137380) → ¬ (g 169 49 = 1 ∧ g 169 56 = 126870791090028) → ¬ (g 169 49 = 1 ∧ g 169 56 = 448444786035) → g 169 49 = 1 ∧ g 169 56 = 1936682085 → Q 239 g [xI 3])
    (k11 : ¬ (g 169 49 = 1 ∧ g 169 56 = 30787916635137380) → ¬ (g 169 49 = 1 ∧ g 169 56 = 126870791090028) → g 169 49 = 1 ∧ g 169 56 = 448444786035 → Q 239 g [xI 2])
    (k12 : ¬ (g 169 49 = 1 ∧ g 169 56 = 30787916635137380) → g 169 49 = 1 ∧ g 169 56 = 126870791090028 → Q 239 g [xI 1])
    (k13 : g 169 49 = 1 ∧ g 169 56 = 30787916635137380 → Q 239 g [xI 0]) : zW mX11_atom X dep bc bs 239 0 [(0, xR 169)] [] g Q := by
  refine z_aload_n 0 dX11_atom_0 rfl ?_
  refine z_ldc2c (v := 30787916635137380) ⟨by decide, by decide⟩ dX11_atom_1 zb_1527 (by decide) ?_
  refine z_invF (ci := 11) (N := 97) (as := [xL 30787916635137380]) (st := []) (ra := [xL 30787916635137380]) (dep' := dep - 1) (rs := [xI (zb (g 169 49 = 1 ∧ g 169 56 = 30787916635137380))]) (h' := g) (f_X11_isWord 30787916635137380 (h := g) ) dX11_atom_4 nX11_isWord zb_1491 zb_1493 zb_41 zb_92 (zOb.lit (by decide +kernel)) rfl (by omega) zne_I (Nat.le_of_ble_eq_true rfl) (Nat.le_of_ble_eq_true rfl) rfl ?_
  refine z_ifB_eq (C := g 169 49 = 1 ∧ g 169 56 = 30787916635137380) (tgt := 12) dX11_atom_7 (by decide) (fun c1 => ?_) (fun c1 => ?_)
  ·
    refine z_aload_n 0 dX11_atom_12 rfl ?_
    refine z_ldc2c (v := 126870791090028) ⟨by decide, by decide⟩ dX11_atom_13 zb_1528 (by decide) ?_
    refine z_invF (ci := 11) (N := 97) (as := [xL 126870791090028]) (st := []) (ra := [xL 126870791090028]) (dep' := dep - 1) (rs := [xI (zb (g 169 49 = 1 ∧ g 169 56 = 126870791090028))]) (h' := g) (f_X11_isWord 126870791090028 (h := g) ) dX11_atom_16 nX11_isWord zb_1491 zb_1493 zb_41 zb_92 (zOb.lit (by decide +kernel)) rfl (by omega) zne_I (Nat.le_of_ble_eq_true rfl) (Nat.le_of_ble_eq_true rfl) rfl ?_
    refine z_ifB_eq (C := g 169 49 = 1 ∧ g 169 56 = 126870791090028) (tgt := 24) dX11_atom_19 (by decide) (fun c2 => ?_) (fun c2 => ?_)
    ·
      refine z_aload_n 0 dX11_atom_24 rfl ?_
      refine z_ldc2c (v := 448444786035) ⟨by decide, by decide⟩ dX11_atom_25 zb_1529 (by decide) ?_
      refine z_invF (ci := 11) (N := 97) (as := [xL 448444786035]) (st := []) (ra := [xL 448444786035]) (dep' := dep - 1) (rs := [xI (zb (g 169 49 = 1 ∧ g 169 56 = 448444786035))]) (h' := g) (f_X11_isWord 448444786035 (h := g) ) dX11_atom_28 nX11_isWord zb_1491 zb_1493 zb_41 zb_92 (zOb.lit (by decide +kernel)) rfl (by omega) zne_I (Nat.le_of_ble_eq_true rfl) (Nat.le_of_ble_eq_true rfl) rfl ?_
      refine z_ifB_eq (C := g 169 49 = 1 ∧ g 169 56 = 448444786035) (tgt := 36) dX11_atom_31 (by decide) (fun c3 => ?_) (fun c3 => ?_)
      ·
        refine z_aload_n 0 dX11_atom_36 rfl ?_
        refine z_ldc2c (v := 1936682085) ⟨by decide, by decide⟩ dX11_atom_37 zb_1530 (by decide) ?_
        refine z_invF (ci := 11) (N := 97) (as := [xL 1936682085]) (st := []) (ra := [xL 1936682085]) (dep' := dep - 1) (rs := [xI (zb (g 169 49 = 1 ∧ g 169 56 = 1936682085))]) (h' := g) (f_X11_isWord 1936682085 (h := g) ) dX11_atom_40 nX11_isWord zb_1491 zb_1493 zb_41 zb_92 (zOb.lit (by decide +kernel)) rfl (by omega) zne_I (Nat.le_of_ble_eq_true rfl) (Nat.le_of_ble_eq_true rfl) rfl ?_
        refine z_ifB_eq (C := g 169 49 = 1 ∧ g 169 56 = 1936682085) (tgt := 48) dX11_atom_43 (by decide) (fun c4 => ?_) (fun c4 => ?_)
        ·
          refine z_aload_n 0 dX11_atom_48 rfl ?_
          refine z_ldc2c (v := 6383461) ⟨by decide, by decide⟩ dX11_atom_49 zb_1490 (by decide) ?_
          refine z_invF (ci := 11) (N := 97) (as := [xL 6383461]) (st := []) (ra := [xL 6383461]) (dep' := dep - 1) (rs := [xI (zb (g 169 49 = 1 ∧ g 169 56 = 6383461))]) (h' := g) (f_X11_isWord 6383461 (h := g) ) dX11_atom_52 nX11_isWord zb_1491 zb_1493 zb_41 zb_92 (zOb.lit (by decide +kernel)) rfl (by omega) zne_I (Nat.le_of_ble_eq_true rfl) (Nat.le_of_ble_eq_true rfl) rfl ?_
          refine z_ifB_eq (C := g 169 49 = 1 ∧ g 169 56 = 6383461) (tgt := 60) dX11_atom_55 (by decide) (fun c5 => ?_) (fun c5 => ?_)
          ·
            refine z_aload_n 0 dX11_atom_60 rfl ?_
            refine z_ldc2c (v := 500135191653) ⟨by decide, by decide⟩ dX11_atom_61 zb_1531 (by decide) ?_
            refine z_invF (ci := 11) (N := 97) (as := [xL 500135191653]) (st := []) (ra := [xL 500135191653]) (dep' := dep - 1) (rs := [xI (zb (g 169 49 = 1 ∧ g 169 56 = 500135191653))]) (h' := g) (f_X11_isWord 500135191653 (h := g) ) dX11_atom_64 nX11_isWord zb_1491 zb_1493 zb_41 zb_92 (zOb.lit (by decide +kernel)) rfl (by omega) zne_I (Nat.le_of_ble_eq_true rfl) (Nat.le_of_ble_eq_true rfl) rfl ?_
            refine z_ifB_eq (C := g 169 49 = 1 ∧ g 169 56 = 500135191653) (tgt := 72) dX11_atom_67 (by decide) (fun c6 => ?_) (fun c6 => ?_)
            ·
              refine z_aload_n 0 dX11_atom_72 rfl ?_
              refine z_ldc2c (v := 7163091121595377006) ⟨by decide, by decide⟩ dX11_atom_73 zb_1532 (by decide) ?_
              refine z_invF (ci := 11) (N := 97) (as := [xL 7163091121595377006]) (st := []) (ra := [xL 7163091121595377006]) (dep' := dep - 1) (rs := [xI (zb (g 169 49 = 1 ∧ g 169 56 = 7163091121595377006))]) (h' := g) (f_X11_isWord 7163091121595377006 (h := g) ) dX11_atom_76 nX11_isWord zb_1491 zb_1493 zb_41 zb_92 (zOb.lit (by decide +kernel)) rfl (by omega) zne_I (Nat.le_of_ble_eq_true rfl) (Nat.le_of_ble_eq_true rfl) rfl ?_
              refine z_ifB_eq (C := g 169 49 = 1 ∧ g 169 56 = 7163091121595377006) (tgt := 85) dX11_atom_79 (by decide) (fun c7 => ?_) (fun c7 => ?_)
              ·
                refine z_aload_n 0 dX11_atom_85 rfl ?_
                refine z_ldc2c (v := 114784769370228) ⟨by decide, by decide⟩ dX11_atom_86 zb_1533 (by decide) ?_
                refine z_invF (ci := 11) (N := 97) (as := [xL 114784769370228]) (st := []) (ra := [xL 114784769370228]) (dep' := dep - 1) (rs := [xI (zb (g 169 49 = 1 ∧ g 169 56 = 114784769370228))]) (h' := g) (f_X11_isWord 114784769370228 (h := g) ) dX11_atom_89 nX11_isWord zb_1491 zb_1493 zb_41 zb_92 (zOb.lit (by decide +kernel)) rfl (by omega) zne_I (Nat.le_of_ble_eq_true rfl) (Nat.le_of_ble_eq_true rfl) rfl ?_
                refine z_ifB_eq (C := g 169 49 = 1 ∧ g 169 56 = 114784769370228) (tgt := 98) dX11_atom_92 (by decide) (fun c8 => ?_) (fun c8 => ?_)
                ·
                  refine z_aload_n 0 dX11_atom_98 rfl ?_
                  refine z_ldc2c (v := 444300616805) ⟨by decide, by decide⟩ dX11_atom_99 zb_1534 (by decide) ?_
                  refine z_invF (ci := 11) (N := 97) (as := [xL 444300616805]) (st := []) (ra := [xL 444300616805]) (dep' := dep - 1) (rs := [xI (zb (g 169 49 = 1 ∧ g 169 56 = 444300616805))]) (h' := g) (f_X11_isWord 444300616805 (h := g) ) dX11_atom_102 nX11_isWord zb_1491 zb_1493 zb_41 zb_92 (zOb.lit (by decide +kernel)) rfl (by omega) zne_I (Nat.le_of_ble_eq_true rfl) (Nat.le_of_ble_eq_true rfl) rfl ?_
                  refine z_ifB_eq (C := g 169 49 = 1 ∧ g 169 56 = 444300616805) (tgt := 111) dX11_atom_105 (by decide) (fun c9 => ?_) (fun c9 => ?_)
                  ·
                    refine z_aload_n 0 dX11_atom_111 rfl ?_
                    refine z_ldc2c (v := 7093854908820320883) ⟨by decide, by decide⟩ dX11_atom_112 zb_1535 (by decide) ?_
                    refine z_invF (ci := 11) (N := 97) (as := [xL 7093854908820320883]) (st := []) (ra := [xL 7093854908820320883]) (dep' := dep - 1) (rs := [xI (zb (g 169 49 = 1 ∧ g 169 56 = 7093854908820320883))]) (h' := g) (f_X11_isWord 7093854908820320883 (h := g) ) dX11_atom_115 nX11_isWord zb_1491 zb_1493 zb_41 zb_92 (zOb.lit (by decide +kernel)) rfl (by omega) zne_I (Nat.le_of_ble_eq_true rfl) (Nat.le_of_ble_eq_true rfl) rfl ?_
                    refine z_ifB_eq (C := g 169 49 = 1 ∧ g 169 56 = 7093854908820320883) (tgt := 124) dX11_atom_118 (by decide) (fun c10 => ?_) (fun c10 => ?_)
                    ·
                      refine z_aload_n 0 dX11_atom_124 rfl ?_
                      refine z_ldc2c (v := 32481164609023591) ⟨by decide, by decide⟩ dX11_atom_125 zb_1536 (by decide) ?_
                      refine z_invF (ci := 11) (N := 97) (as := [xL 32481164609023591]) (st := []) (ra := [xL 32481164609023591]) (dep' := dep - 1) (rs := [xI (zb (g 169 49 = 1 ∧ g 169 56 = 32481164609023591))]) (h' := g) (f_X11_isWord 32481164609023591 (h := g) ) dX11_atom_128 nX11_isWord zb_1491 zb_1493 zb_41 zb_92 (zOb.lit (by decide +kernel)) rfl (by omega) zne_I (Nat.le_of_ble_eq_true rfl) (Nat.le_of_ble_eq_true rfl) rfl ?_
                      refine z_ifB_eq (C := g 169 49 = 1 ∧ g 169 56 = 32481164609023591) (tgt := 137) dX11_atom_131 (by decide) (fun c11 => ?_) (fun c11 => ?_)
                      ·
                        refine z_aload_n 0 dX11_atom_137 rfl ?_
                        refine z_ldc2c (v := 123563833652072) ⟨by decide, by decide⟩ dX11_atom_138 zb_1537 (by decide) ?_
                        refine z_invF (ci := 11) (N := 97) (as := [xL 123563833652072]) (st := []) (ra := [xL 123563833652072]) (dep' := dep - 1) (rs := [xI (zb (g 169 49 = 1 ∧ g 169 56 = 123563833652072))]) (h' := g) (f_X11_isWord 123563833652072 (h := g) ) dX11_atom_141 nX11_isWord zb_1491 zb_1493 zb_41 zb_92 (zOb.lit (by decide +kernel)) rfl (by omega) zne_I (Nat.le_of_ble_eq_true rfl) (Nat.le_of_ble_eq_true rfl) rfl ?_
                        refine z_ifB_eq (C := g 169 49 = 1 ∧ g 169 56 = 123563833652072) (tgt := 152) dX11_atom_144 (by decide) (fun c12 => ?_) (fun c12 => ?_)
                        ·
                          refine z_iconst dX11_atom_152 (zi32_d rfl) ?_
                          exact z_iret dX11_atom_153 rfl (k1 c1 c2 c3 c4 c5 c6 c7 c8 c9 c10 c11 c12)
                        ·
                          refine z_bipush dX11_atom_147 (zi32_d rfl) (by decide) ?_
                          refine z_goto (tgt := 153) dX11_atom_149 (by decide) ?_
                          exact z_iret dX11_atom_153 rfl (k2 c1 c2 c3 c4 c5 c6 c7 c8 c9 c10 c11 c12)
                      ·
                        refine z_bipush dX11_atom_134 (zi32_d rfl) (by decide) ?_
                        exact z_iret dX11_atom_136 rfl (k3 c1 c2 c3 c4 c5 c6 c7 c8 c9 c10 c11)
                    ·
                      refine z_bipush dX11_atom_121 (zi32_d rfl) (by decide) ?_
                      exact z_iret dX11_atom_123 rfl (k4 c1 c2 c3 c4 c5 c6 c7 c8 c9 c10)
                  ·
                    refine z_bipush dX11_atom_108 (zi32_d rfl) (by decide) ?_
                    exact z_iret dX11_atom_110 rfl (k5 c1 c2 c3 c4 c5 c6 c7 c8 c9)
                ·
                  refine z_bipush dX11_atom_95 (zi32_d rfl) (by decide) ?_
                  exact z_iret dX11_atom_97 rfl (k6 c1 c2 c3 c4 c5 c6 c7 c8)
              ·
                refine z_bipush dX11_atom_82 (zi32_d rfl) (by decide) ?_
                exact z_iret dX11_atom_84 rfl (k7 c1 c2 c3 c4 c5 c6 c7)
            ·
              refine z_iconst dX11_atom_70 (zi32_d rfl) ?_
              exact z_iret dX11_atom_71 rfl (k8 c1 c2 c3 c4 c5 c6)
          ·
            refine z_iconst dX11_atom_58 (zi32_d rfl) ?_
            exact z_iret dX11_atom_59 rfl (k9 c1 c2 c3 c4 c5)
        ·
          refine z_iconst dX11_atom_46 (zi32_d rfl) ?_
          exact z_iret dX11_atom_47 rfl (k10 c1 c2 c3 c4)
      ·
        refine z_iconst dX11_atom_34 (zi32_d rfl) ?_
        exact z_iret dX11_atom_35 rfl (k11 c1 c2 c3)
    ·
      refine z_iconst dX11_atom_22 (zi32_d rfl) ?_
      exact z_iret dX11_atom_23 rfl (k12 c1 c2)
  ·
    refine z_iconst dX11_atom_10 (zi32_d rfl) ?_
    exact z_iret dX11_atom_11 rfl (k13 c1)

set_option maxRecDepth 20000 in
theorem bX11_sign_0 {X : zX} {dep bc bs : Nat} (c : Int) {g : zH} {Q : Nat → zH → List zV → Prop} (hdep : 1 ≤ dep)
    (k1 : g 169 49 = 3 ∧ g 169 52 = c → zW mX11_sign X dep bc bs 239 15 [(0, xR 169), (1, xI c)] [xR 169] g Q)
    (k2 : ¬ (g 169 49 = 3 ∧ g 169 52 = c) → zW mX11_sign X dep bc bs 239 10 [(0, xR 169), (1, xI c)] [xI 1, xR 169] g Q) : zW mX11_sign X dep bc bs 239 0 [(0, xR 169), (1, xI c)] [] g Q := by
  refine z_aload_n 0 dX11_sign_0 rfl ?_
  refine z_iload_n 1 dX11_sign_1 rfl ?_
  refine z_invF (ci := 11) (N := 97) (as := [xI c]) (st := []) (ra := [xI c]) (dep' := dep - 1) (rs := [xI (zb (g 169 49 = 3 ∧ g 169 52 = c))]) (h' := g) (f_X11_isSign c (h := g) ) dX11_sign_2 nX11_isSign zb_1538 zb_1540 zb_48 zb_92 (zOb.lit (by decide +kernel)) rfl (by omega) zne_I (Nat.le_of_ble_eq_true rfl) (Nat.le_of_ble_eq_true rfl) rfl ?_
  refine z_ifB_ne (C := g 169 49 = 3 ∧ g 169 52 = c) (tgt := 14) dX11_sign_5 (by decide) (fun c1 => ?_) (fun c1 => ?_)
  ·
    refine z_aload_n 0 dX11_sign_14 rfl ?_
    exact k1 c1
  ·
    refine z_aload_n 0 dX11_sign_8 rfl ?_
    refine z_iconst dX11_sign_9 (zi32_d rfl) ?_
    exact k2 c1

set_option maxRecDepth 20000 in
theorem rX11_sign_10 {X : zX} {dep bc bs : Nat} (c : Int) {g : zH} {Q : Nat → zH → List zV → Prop} {P : Int → zH → Prop}
    (hZ : zW mX11_bad X (dep - 1) 0 0 239 0 (zar 0 [xR 169, xI 1]) [] g (zQI P)) (hdep : 1 ≤ dep)
    (k : ∀ (v : Int) (g : zH), P v g → zW mX11_sign X dep bc bs 239 13 [(0, xR 169), (1, xI c)] [xI v] g Q) : zW mX11_sign X dep bc bs 239 10 [(0, xR 169), (1, xI c)] [xI 1, xR 169] g Q :=
  z_invQI (ci := 11) (N := 97) (as := [xI 1]) (st := []) (ra := [xI 1]) hZ dX11_sign_10 nX11_bad zb_1500 zb_1502 zb_42 zb_92 (zOb.lit (by decide +kernel)) rfl (by omega) (Nat.le_of_ble_eq_true rfl) (Nat.le_of_ble_eq_true rfl) rfl (fun v g hg => k v g hg)

set_option maxRecDepth 20000 in
theorem bX11_sign_13 {X : zX} {dep bc bs : Nat} (c : Int) (v : Int) {g : zH} {Q : Nat → zH → List zV → Prop} (hv : v = 0 ∨ v = 1)
    (k1 : Q 239 g [xI v]) : zW mX11_sign X dep bc bs 239 13 [(0, xR 169), (1, xI c)] [xI v] g Q := by
  exact z_zret dX11_sign_13 rfl hv (k1)

set_option maxRecDepth 20000 in
theorem rX11_sign_15 {X : zX} {dep bc bs : Nat} (c : Int) {g : zH} {Q : Nat → zH → List zV → Prop} {P : zH → Prop}
    (hZ : zW mX11_next_ X (dep - 1) 0 0 239 0 (zar 0 [xR 169]) [] g (zQ0 P)) (hdep : 1 ≤ dep)
    (k : ∀ g : zH, P g → zW mX11_sign X dep bc bs 239 18 [(0, xR 169), (1, xI c)] [] g Q) : zW mX11_sign X dep bc bs 239 15 [(0, xR 169), (1, xI c)] [xR 169] g Q :=
  z_invQ0 (ci := 11) (N := 97) (as := []) (st := []) (ra := []) hZ dX11_sign_15 nX11_next_ zb_1475 zb_1477 zb_38 zb_92 (zOb.lit (by decide +kernel)) rfl (by omega) (Nat.le_of_ble_eq_true rfl) (Nat.le_of_ble_eq_true rfl) rfl (fun g hg => k g hg)

set_option maxRecDepth 20000 in
theorem bX11_sign_18 {X : zX} {dep bc bs : Nat} (c : Int) {g : zH} {Q : Nat → zH → List zV → Prop}
    (k1 : Q 239 g [xI 1]) : zW mX11_sign X dep bc bs 239 18 [(0, xR 169), (1, xI c)] [] g Q := by
  refine z_iconst dX11_sign_18 (zi32_d rfl) ?_
  exact z_zret dX11_sign_19 rfl (Or.inr rfl) (k1)

set_option maxRecDepth 20000 in
theorem bX11_open_0 {X : zX} {dep bc bs : Nat} {g : zH} {Q : Nat → zH → List zV → Prop}
    (k1 : zW mX11_open X dep bc bs 239 4 [(0, xR 169), (1, xI 0), (2, xI 0)] [] g Q) : zW mX11_open X dep bc bs 239 0 [(0, xR 169)] [] g Q := by
  refine z_iconst dX11_open_0 (zi32_d rfl) ?_
  refine z_istore_n (lv' := [(1, xI 0), (0, xR 169)]) dX11_open_1 (by decide) rfl ?_
  refine z_iconst dX11_open_2 (zi32_d rfl) ?_
  refine z_istore_n (lv' := [(2, xI 0), (1, xI 0), (0, xR 169)]) dX11_open_3 (by decide) rfl ?_
  refine zW.sub (lv' := [(0, xR 169), (1, xI 0), (2, xI 0)]) [2, 1, 0] rfl ?_
  exact k1

set_option maxRecDepth 20000 in
theorem bX11_open_4 {X : zX} {dep bc bs : Nat} (n : Int) (i : Int) {g : zH} {Q : Nat → zH → List zV → Prop} (hp : 0 ≤ g 169 47 ∧ g 169 47 ≤ 80) (hi : 0 ≤ i ∧ i ≤ 80) (hn : 0 ≤ n ∧ n ≤ i)
    (k1 : (g 169 47) ≤ i → Q 239 g [xI n])
    (k2 : ¬ ((g 169 47) ≤ i) → zW mX11_open X dep bc bs 239 4 [(0, xR 169), (1, xI (n + (if (g 204 i) = 20 then 1 else if (g 204 i) = 23 then 1 else 0 : Int))), (2, xI (i + 1))] [] g Q) : zW mX11_open X dep bc bs 239 4 [(0, xR 169), (1, xI n), (2, xI i)] [] g Q := by
  refine z_iload_n 2 dX11_open_4 rfl ?_
  refine z_aload_n 0 dX11_open_5 rfl ?_
  refine z_getI (k := 47) (kz := 47) pk11 dX11_open_6 (by decide) zb_1171 rfl (zOb.lit (by decide +kernel)) rfl ?_
  refine z_icmp_ge (tgt := 48) dX11_open_9 (by decide) (fun c1 => ?_) (fun c1 => ?_)
  ·
    refine z_iload_n 1 dX11_open_48 rfl ?_
    exact z_iret dX11_open_49 rfl (k1 c1)
  ·
    refine z_iload_n 1 dX11_open_12 rfl ?_
    refine z_aload_n 0 dX11_open_13 rfl ?_
    refine z_getS (v := 204) (k := 44) (kz := 44) pk11 dX11_open_14 (by decide) zb_1168 rfl (zOb.lit (by decide +kernel)) rfl (by decide +kernel) ?_
    refine z_iload_n 2 dX11_open_17 rfl ?_
    refine z_iald dX11_open_18 (zOb.lit (by decide +kernel)) (show 0 ≤ i ∧ i < 80 from ⟨by omega, by omega⟩).1 (show 0 ≤ i ∧ i < 80 from ⟨by omega, by omega⟩).2 ?_
    refine z_bipush dX11_open_19 (zi32_d rfl) (by decide) ?_
    suffices KJ : zW mX11_open X dep bc bs 239 40 [(0, xR 169), (1, xI n), (2, xI i)] [xI (if (g 204 i) = 20 then 1 else if (g 204 i) = 23 then 1 else 0 : Int), xI n] g Q by
      refine z_icmp_eq (tgt := 35) dX11_open_21 (by decide) (fun j1 => ?_) (fun j1 => ?_)
      ·
        refine z_iconst dX11_open_35 (zi32_d rfl) ?_
        refine z_goto (tgt := 40) dX11_open_36 (by decide) ?_
        rw [if_pos j1] at KJ
        exact KJ
      ·
        refine z_aload_n 0 dX11_open_24 rfl ?_
        refine z_getS (v := 204) (k := 44) (kz := 44) pk11 dX11_open_25 (by decide) zb_1168 rfl (zOb.lit (by decide +kernel)) rfl (by decide +kernel) ?_
        refine z_iload_n 2 dX11_open_28 rfl ?_
        refine z_iald dX11_open_29 (zOb.lit (by decide +kernel)) (show 0 ≤ i ∧ i < 80 from ⟨by omega, by omega⟩).1 (show 0 ≤ i ∧ i < 80 from ⟨by omega, by omega⟩).2 ?_
        refine z_bipush dX11_open_30 (zi32_d rfl) (by decide) ?_
        refine z_icmp_ne (tgt := 39) dX11_open_32 (by decide) (fun j2 => ?_) (fun j2 => ?_)
        ·
          refine z_iconst dX11_open_39 (zi32_d rfl) ?_
          rw [if_neg j1] at KJ
          rw [if_neg j2] at KJ
          exact KJ
        ·
          refine z_iconst dX11_open_35 (zi32_d rfl) ?_
          refine z_goto (tgt := 40) dX11_open_36 (by decide) ?_
          rw [if_neg j1] at KJ
          rw [if_pos j2] at KJ
          exact KJ
    refine z_iaddN dX11_open_40 (show -2147483648 ≤ n + (if (g 204 i) = 20 then 1 else if (g 204 i) = 23 then 1 else 0 : Int) ∧ n + (if (g 204 i) = 20 then 1 else if (g 204 i) = 23 then 1 else 0 : Int) < 2147483648 from ⟨by omega, by omega⟩).1 (show -2147483648 ≤ n + (if (g 204 i) = 20 then 1 else if (g 204 i) = 23 then 1 else 0 : Int) ∧ n + (if (g 204 i) = 20 then 1 else if (g 204 i) = 23 then 1 else 0 : Int) < 2147483648 from ⟨by omega, by omega⟩).2 ?_
    refine z_istore_n (lv' := [(1, xI (n + (if (g 204 i) = 20 then 1 else if (g 204 i) = 23 then 1 else 0 : Int))), (0, xR 169), (2, xI i)]) dX11_open_41 (by decide) rfl ?_
    refine z_iincN (lv' := [(2, xI (i + 1)), (1, xI (n + (if (g 204 i) = 20 then 1 else if (g 204 i) = 23 then 1 else 0 : Int))), (0, xR 169)]) 2 dX11_open_42 rfl (by decide) rfl (show -2147483648 ≤ i + 1 ∧ i + 1 < 2147483648 from ⟨by omega, by omega⟩).1 (show -2147483648 ≤ i + 1 ∧ i + 1 < 2147483648 from ⟨by omega, by omega⟩).2 ?_
    refine z_goto (tgt := 4) dX11_open_45 (by decide) ?_
    refine zW.sub (lv' := [(0, xR 169), (1, xI (n + (if (g 204 i) = 20 then 1 else if (g 204 i) = 23 then 1 else 0 : Int))), (2, xI (i + 1))]) [2, 1, 0] rfl ?_
    exact k2 c1

set_option maxRecDepth 20000 in
theorem bX11_isOpen_0 {X : zX} {dep bc bs : Nat} {g : zH} {Q : Nat → zH → List zV → Prop}
    (k1 : zW mX11_isOpen X dep bc bs 239 2 [(0, xR 169), (1, xI 0)] [] g Q) : zW mX11_isOpen X dep bc bs 239 0 [(0, xR 169)] [] g Q := by
  refine z_iconst dX11_isOpen_0 (zi32_d rfl) ?_
  refine z_istore_n (lv' := [(1, xI 0), (0, xR 169)]) dX11_isOpen_1 (by decide) rfl ?_
  refine zW.sub (lv' := [(0, xR 169), (1, xI 0)]) [1, 0] rfl ?_
  exact k1

set_option maxRecDepth 20000 in
theorem bX11_isOpen_2 {X : zX} {dep bc bs : Nat} (i : Int) {g : zH} {Q : Nat → zH → List zV → Prop} (hp : 0 ≤ g 169 47 ∧ g 169 47 ≤ 80) (hi : 0 ≤ i)
    (k1 : (g 169 47) ≤ i → Q 239 g [xI 0])
    (k2 : ¬ ((g 169 47) ≤ i) → ¬ (g 204 i) = 23 → zW mX11_isOpen X dep bc bs 239 2 [(0, xR 169), (1, xI (i + 1))] [] g Q)
    (k3 : ¬ ((g 169 47) ≤ i) → (g 204 i) = 23 → Q 239 g [xI 1]) : zW mX11_isOpen X dep bc bs 239 2 [(0, xR 169), (1, xI i)] [] g Q := by
  refine z_iload_n 1 dX11_isOpen_2 rfl ?_
  refine z_aload_n 0 dX11_isOpen_3 rfl ?_
  refine z_getI (k := 47) (kz := 47) pk11 dX11_isOpen_4 (by decide) zb_1171 rfl (zOb.lit (by decide +kernel)) rfl ?_
  refine z_icmp_ge (tgt := 29) dX11_isOpen_7 (by decide) (fun c1 => ?_) (fun c1 => ?_)
  ·
    refine z_iconst dX11_isOpen_29 (zi32_d rfl) ?_
    exact z_zret dX11_isOpen_30 rfl (Or.inl rfl) (k1 c1)
  ·
    refine z_aload_n 0 dX11_isOpen_10 rfl ?_
    refine z_getS (v := 204) (k := 44) (kz := 44) pk11 dX11_isOpen_11 (by decide) zb_1168 rfl (zOb.lit (by decide +kernel)) rfl (by decide +kernel) ?_
    refine z_iload_n 1 dX11_isOpen_14 rfl ?_
    refine z_iald dX11_isOpen_15 (zOb.lit (by decide +kernel)) (show 0 ≤ i ∧ i < 80 from ⟨by omega, by omega⟩).1 (show 0 ≤ i ∧ i < 80 from ⟨by omega, by omega⟩).2 ?_
    refine z_bipush dX11_isOpen_16 (zi32_d rfl) (by decide) ?_
    refine z_icmp_ne (tgt := 23) dX11_isOpen_18 (by decide) (fun c2 => ?_) (fun c2 => ?_)
    ·
      refine z_iincN (lv' := [(1, xI (i + 1)), (0, xR 169)]) 1 dX11_isOpen_23 rfl (by decide) rfl (show -2147483648 ≤ i + 1 ∧ i + 1 < 2147483648 from ⟨by omega, by omega⟩).1 (show -2147483648 ≤ i + 1 ∧ i + 1 < 2147483648 from ⟨by omega, by omega⟩).2 ?_
      refine z_goto (tgt := 2) dX11_isOpen_26 (by decide) ?_
      refine zW.sub (lv' := [(0, xR 169), (1, xI (i + 1))]) [1, 0] rfl ?_
      exact k2 c1 c2
    ·
      refine z_iconst dX11_isOpen_21 (zi32_d rfl) ?_
      exact z_zret dX11_isOpen_22 rfl (Or.inr rfl) (k3 c1 c2)

set_option maxRecDepth 20000 in
theorem bX11_writeDown_0 {X : zX} {dep bc bs : Nat} (kk : Int) {g : zH} {Q : Nat → zH → List zV → Prop} (hp : 0 ≤ g 169 47 ∧ g 169 47 ≤ 80) (hdep : 1 ≤ dep)
    (k1 : (g 169 47) ≤ 0 → Q 239 g [])
    (k2 : ¬ ((g 169 47) ≤ 0) → (g 204 ((g 169 47) - 1)) = 23 → Q 239 g [])
    (k3 : ¬ ((g 169 47) ≤ 0) → ¬ ((g 204 ((g 169 47) - 1)) = 23) → (if (g 204 ((g 169 47) - 1)) = 20 then 3 else if (g 204 ((g 169 47) - 1)) = 21 then 2 else 1) < kk → Q 239 g [])
    (k4 : ¬ ((g 169 47) ≤ 0) → ¬ ((g 204 ((g 169 47) - 1)) = 23) → ¬ ((if (g 204 ((g 169 47) - 1)) = 20 then 3 else if (g 204 ((g 169 47) - 1)) = 21 then 2 else 1) < kk) → zW mX11_writeDown X dep bc bs 239 41 [(0, xR 169), (1, xI kk)] [] g Q) : zW mX11_writeDown X dep bc bs 239 0 [(0, xR 169), (1, xI kk)] [] g Q := by
  refine z_aload_n 0 dX11_writeDown_0 rfl ?_
  refine z_getI (k := 47) (kz := 47) pk11 dX11_writeDown_1 (by decide) zb_1171 rfl (zOb.lit (by decide +kernel)) rfl ?_
  refine z_if_le (tgt := 69) dX11_writeDown_4 (by decide) (fun c1 => ?_) (fun c1 => ?_)
  ·
    exact z_ret dX11_writeDown_69 rfl (k1 c1)
  ·
    refine z_aload_n 0 dX11_writeDown_7 rfl ?_
    refine z_getS (v := 204) (k := 44) (kz := 44) pk11 dX11_writeDown_8 (by decide) zb_1168 rfl (zOb.lit (by decide +kernel)) rfl (by decide +kernel) ?_
    refine z_aload_n 0 dX11_writeDown_11 rfl ?_
    refine z_getI (k := 47) (kz := 47) pk11 dX11_writeDown_12 (by decide) zb_1171 rfl (zOb.lit (by decide +kernel)) rfl ?_
    refine z_iconst dX11_writeDown_15 (zi32_d rfl) ?_
    refine z_isubN dX11_writeDown_16 (show -2147483648 ≤ (g 169 47) - 1 ∧ (g 169 47) - 1 < 2147483648 from ⟨by omega, by omega⟩).1 (show -2147483648 ≤ (g 169 47) - 1 ∧ (g 169 47) - 1 < 2147483648 from ⟨by omega, by omega⟩).2 ?_
    refine z_iald dX11_writeDown_17 (zOb.lit (by decide +kernel)) (show 0 ≤ ((g 169 47) - 1) ∧ ((g 169 47) - 1) < 80 from ⟨by omega, by omega⟩).1 (show 0 ≤ ((g 169 47) - 1) ∧ ((g 169 47) - 1) < 80 from ⟨by omega, by omega⟩).2 ?_
    refine z_bipush dX11_writeDown_18 (zi32_d rfl) (by decide) ?_
    refine z_icmp_eq (tgt := 69) dX11_writeDown_20 (by decide) (fun c2 => ?_) (fun c2 => ?_)
    ·
      exact z_ret dX11_writeDown_69 rfl (k2 c1 c2)
    ·
      refine z_aload_n 0 dX11_writeDown_23 rfl ?_
      refine z_getS (v := 204) (k := 44) (kz := 44) pk11 dX11_writeDown_24 (by decide) zb_1168 rfl (zOb.lit (by decide +kernel)) rfl (by decide +kernel) ?_
      refine z_aload_n 0 dX11_writeDown_27 rfl ?_
      refine z_getI (k := 47) (kz := 47) pk11 dX11_writeDown_28 (by decide) zb_1171 rfl (zOb.lit (by decide +kernel)) rfl ?_
      refine z_iconst dX11_writeDown_31 (zi32_d rfl) ?_
      refine z_isubN dX11_writeDown_32 (show -2147483648 ≤ (g 169 47) - 1 ∧ (g 169 47) - 1 < 2147483648 from ⟨by omega, by omega⟩).1 (show -2147483648 ≤ (g 169 47) - 1 ∧ (g 169 47) - 1 < 2147483648 from ⟨by omega, by omega⟩).2 ?_
      refine z_iald dX11_writeDown_33 (zOb.lit (by decide +kernel)) (show 0 ≤ ((g 169 47) - 1) ∧ ((g 169 47) - 1) < 80 from ⟨by omega, by omega⟩).1 (show 0 ≤ ((g 169 47) - 1) ∧ ((g 169 47) - 1) < 80 from ⟨by omega, by omega⟩).2 ?_
      refine z_invSF (as := [xI (g 204 ((g 169 47) - 1))]) (st := []) (ra := [xI (g 204 ((g 169 47) - 1))]) (dep' := dep - 1) (rs := [xI (if (g 204 ((g 169 47) - 1)) = 20 then 3 else if (g 204 ((g 169 47) - 1)) = 21 then 2 else 1)]) (h' := g) (f_X11_binds (g 204 ((g 169 47) - 1)) (h := g) ) dX11_writeDown_34 nX11_binds zb_1554 zb_1555 zb_92 (by omega) zne_I (Nat.le_of_ble_eq_true rfl) (Nat.le_of_ble_eq_true rfl) rfl ?_
      refine z_iload_n 1 dX11_writeDown_37 rfl ?_
      refine z_icmp_lt (tgt := 69) dX11_writeDown_38 (by decide) (fun c3 => ?_) (fun c3 => ?_)
      ·
        exact z_ret dX11_writeDown_69 rfl (k3 c1 c2 c3)
      ·
        exact k4 c1 c2 c3

set_option maxRecDepth 20000 in
theorem bX11_writeDown_41 {X : zX} {dep bc bs : Nat} (kk : Int) {g : zH} {Q : Nat → zH → List zV → Prop} (hp : 1 ≤ g 169 47 ∧ g 169 47 ≤ 80)
    (k1 : zW mX11_writeDown X dep bc bs 239 63 [(0, xR 169), (1, xI kk)] [xI 0, xI 0, xI (g 204 ((g 169 47) - 1)), xR 169] (zst g 169 47 ((g 169 47) - 1)) Q) : zW mX11_writeDown X dep bc bs 239 41 [(0, xR 169), (1, xI kk)] [] g Q := by
  refine z_aload_n 0 dX11_writeDown_41 rfl ?_
  refine z_dup dX11_writeDown_42 zt2 ?_
  refine z_getI (k := 47) (kz := 47) pk11 dX11_writeDown_43 (by decide) zb_1171 rfl (zOb.lit (by decide +kernel)) rfl ?_
  refine z_iconst dX11_writeDown_46 (zi32_d rfl) ?_
  refine z_isubN dX11_writeDown_47 (show -2147483648 ≤ (g 169 47) - 1 ∧ (g 169 47) - 1 < 2147483648 from ⟨by omega, by omega⟩).1 (show -2147483648 ≤ (g 169 47) - 1 ∧ (g 169 47) - 1 < 2147483648 from ⟨by omega, by omega⟩).2 ?_
  refine z_putI (k := 47) (kz := 47) pk11 dX11_writeDown_48 (by decide) zb_1171 rfl (zFit_int _) (zOb.lit (by decide +kernel)) rfl ?_
  refine z_aload_n 0 dX11_writeDown_51 rfl ?_
  refine z_aload_n 0 dX11_writeDown_52 rfl ?_
  refine z_getS (v := 204) (k := 44) (kz := 44) pk11 dX11_writeDown_53 (by decide) zb_1168 rfl (zOb.lit (by decide +kernel)) rfl (by decide +kernel) ?_
  refine z_aload_n 0 dX11_writeDown_56 rfl ?_
  refine z_getIV (v := ((g 169 47) - 1)) (k := 47) (kz := 47) pk11 dX11_writeDown_57 (by decide) zb_1171 rfl (zOb.lit (by decide +kernel)) rfl (zst_self _ _ _ _) ?_
  refine z_ialdV (v := (g 204 ((g 169 47) - 1))) dX11_writeDown_60 (zOb.lit (by decide +kernel)) (show 0 ≤ ((g 169 47) - 1) ∧ ((g 169 47) - 1) < 80 from ⟨by omega, by omega⟩).1 (show 0 ≤ ((g 169 47) - 1) ∧ ((g 169 47) - 1) < 80 from ⟨by omega, by omega⟩).2 (zst_ne (Or.inl (by decide))) ?_
  refine z_iconst dX11_writeDown_61 (zi32_d rfl) ?_
  refine z_iconst dX11_writeDown_62 (zi32_d rfl) ?_
  exact k1

set_option maxRecDepth 20000 in
theorem rX11_writeDown_63 {X : zX} {dep bc bs : Nat} (kk : Int) (w : Int) {g : zH} {Q : Nat → zH → List zV → Prop} {P : zH → Prop}
    (hZ : zW mX11_write X (dep - 1) 0 0 239 0 (zar 0 [xR 169, xI w, xI 0, xI 0]) [] g (zQ0 P)) (hdep : 1 ≤ dep)
    (k : ∀ g : zH, P g → zW mX11_writeDown X dep bc bs 239 66 [(0, xR 169), (1, xI kk)] [] g Q) : zW mX11_writeDown X dep bc bs 239 63 [(0, xR 169), (1, xI kk)] [xI 0, xI 0, xI w, xR 169] g Q :=
  z_invQ0 (ci := 11) (N := 97) (as := [xI w, xI 0, xI 0]) (st := []) (ra := [xI 0, xI 0, xI w]) hZ dX11_writeDown_63 nX11_write zb_1546 zb_1548 zb_50 zb_92 (zOb.lit (by decide +kernel)) rfl (by omega) (Nat.le_of_ble_eq_true rfl) (Nat.le_of_ble_eq_true rfl) rfl (fun g hg => k g hg)

set_option maxRecDepth 20000 in
theorem bX11_writeDown_66 {X : zX} {dep bc bs : Nat} (kk : Int) {g : zH} {Q : Nat → zH → List zV → Prop}
    (k1 : zW mX11_writeDown X dep bc bs 239 0 [(0, xR 169), (1, xI kk)] [] g Q) : zW mX11_writeDown X dep bc bs 239 66 [(0, xR 169), (1, xI kk)] [] g Q := by
  refine z_goto (tgt := 0) dX11_writeDown_66 (by decide) ?_
  exact k1

/-! the model: words, signs, the pile -/
def mato (w : Int) : Int := if w = 1000011 then 0 else if w = 1000012 then 1 else if w = 1000013 then 2 else if w = 1000014 then 3 else if w = 1000000 then 4 else if w = 1000015 then 5 else if w = 1000016 then 6 else if w = 1000017 then 7 else if w = 1000018 then 8 else if w = 1000019 then 9 else if w = 1000020 then 10 else if w = 1000021 then 11 else -1
theorem f_X11_atom {X : zX} {dep : Nat} {b : Int → Int} {sz j : Int} {h : zH} (a : mAt b sz j h) (hdep : 1 ≤ dep) : zW mX11_atom X dep 0 0 239 0 (zar 0 [xR 169]) [] h (zQI (fun v g => v = mato (zTW b (min sz 300) j) ∧ g = h)) := by
  have w11 : _ ↔ zTW b (min sz 300) j = 1000011 := a.wd 11 (by decide) (c := 30787916635137380) (by decide +kernel)
  have w12 : _ ↔ zTW b (min sz 300) j = 1000012 := a.wd 12 (by decide) (c := 126870791090028) (by decide +kernel)
  have w13 : _ ↔ zTW b (min sz 300) j = 1000013 := a.wd 13 (by decide) (c := 448444786035) (by decide +kernel)
  have w14 : _ ↔ zTW b (min sz 300) j = 1000014 := a.wd 14 (by decide) (c := 1936682085) (by decide +kernel)
  have w0 : _ ↔ zTW b (min sz 300) j = 1000000 := a.wd 0 (by decide) (c := 6383461) (by decide +kernel)
  have w15 : _ ↔ zTW b (min sz 300) j = 1000015 := a.wd 15 (by decide) (c := 500135191653) (by decide +kernel)
  have w16 : _ ↔ zTW b (min sz 300) j = 1000016 := a.wd 16 (by decide) (c := 7163091121595377006) (by decide +kernel)
  have w17 : _ ↔ zTW b (min sz 300) j = 1000017 := a.wd 17 (by decide) (c := 114784769370228) (by decide +kernel)
  have w18 : _ ↔ zTW b (min sz 300) j = 1000018 := a.wd 18 (by decide) (c := 444300616805) (by decide +kernel)
  have w19 : _ ↔ zTW b (min sz 300) j = 1000019 := a.wd 19 (by decide) (c := 7093854908820320883) (by decide +kernel)
  have w20 : _ ↔ zTW b (min sz 300) j = 1000020 := a.wd 20 (by decide) (c := 32481164609023591) (by decide +kernel)
  have w21 : _ ↔ zTW b (min sz 300) j = 1000021 := a.wd 21 (by decide) (c := 123563833652072) (by decide +kernel)
  generalize zTW b (min sz 300) j = W at *
  refine bX11_atom_0 hdep ?_ ?_ ?_ ?_ ?_ ?_ ?_ ?_ ?_ ?_ ?_ ?_ ?_ 
  · intro c0 c1 c2 c3 c4 c5 c6 c7 c8 c9 c10 c11
    refine ⟨rfl, _, rfl, ?_, rfl⟩
    unfold mato
    rw [if_neg (fun z => c0 (w11.mpr z)), if_neg (fun z => c1 (w12.mpr z)), if_neg (fun z => c2 (w13.mpr z)), if_neg (fun z => c3 (w14.mpr z)), if_neg (fun z => c4 (w0.mpr z)), if_neg (fun z => c5 (w15.mpr z)), if_neg (fun z => c6 (w16.mpr z)), if_neg (fun z => c7 (w17.mpr z)), if_neg (fun z => c8 (w18.mpr z)), if_neg (fun z => c9 (w19.mpr z)), if_neg (fun z => c10 (w20.mpr z)), if_neg (fun z => c11 (w21.mpr z))]
  · intro c0 c1 c2 c3 c4 c5 c6 c7 c8 c9 c10 c
    refine ⟨rfl, _, rfl, ?_, rfl⟩
    unfold mato
    rw [if_neg (fun z => c0 (w11.mpr z)), if_neg (fun z => c1 (w12.mpr z)), if_neg (fun z => c2 (w13.mpr z)), if_neg (fun z => c3 (w14.mpr z)), if_neg (fun z => c4 (w0.mpr z)), if_neg (fun z => c5 (w15.mpr z)), if_neg (fun z => c6 (w16.mpr z)), if_neg (fun z => c7 (w17.mpr z)), if_neg (fun z => c8 (w18.mpr z)), if_neg (fun z => c9 (w19.mpr z)), if_neg (fun z => c10 (w20.mpr z)), if_pos (w21.mp c)]
  · intro c0 c1 c2 c3 c4 c5 c6 c7 c8 c9 c
    refine ⟨rfl, _, rfl, ?_, rfl⟩
    unfold mato
    rw [if_neg (fun z => c0 (w11.mpr z)), if_neg (fun z => c1 (w12.mpr z)), if_neg (fun z => c2 (w13.mpr z)), if_neg (fun z => c3 (w14.mpr z)), if_neg (fun z => c4 (w0.mpr z)), if_neg (fun z => c5 (w15.mpr z)), if_neg (fun z => c6 (w16.mpr z)), if_neg (fun z => c7 (w17.mpr z)), if_neg (fun z => c8 (w18.mpr z)), if_neg (fun z => c9 (w19.mpr z)), if_pos (w20.mp c)]
  · intro c0 c1 c2 c3 c4 c5 c6 c7 c8 c
    refine ⟨rfl, _, rfl, ?_, rfl⟩
    unfold mato
    rw [if_neg (fun z => c0 (w11.mpr z)), if_neg (fun z => c1 (w12.mpr z)), if_neg (fun z => c2 (w13.mpr z)), if_neg (fun z => c3 (w14.mpr z)), if_neg (fun z => c4 (w0.mpr z)), if_neg (fun z => c5 (w15.mpr z)), if_neg (fun z => c6 (w16.mpr z)), if_neg (fun z => c7 (w17.mpr z)), if_neg (fun z => c8 (w18.mpr z)), if_pos (w19.mp c)]
  · intro c0 c1 c2 c3 c4 c5 c6 c7 c
    refine ⟨rfl, _, rfl, ?_, rfl⟩
    unfold mato
    rw [if_neg (fun z => c0 (w11.mpr z)), if_neg (fun z => c1 (w12.mpr z)), if_neg (fun z => c2 (w13.mpr z)), if_neg (fun z => c3 (w14.mpr z)), if_neg (fun z => c4 (w0.mpr z)), if_neg (fun z => c5 (w15.mpr z)), if_neg (fun z => c6 (w16.mpr z)), if_neg (fun z => c7 (w17.mpr z)), if_pos (w18.mp c)]
  · intro c0 c1 c2 c3 c4 c5 c6 c
    refine ⟨rfl, _, rfl, ?_, rfl⟩
    unfold mato
    rw [if_neg (fun z => c0 (w11.mpr z)), if_neg (fun z => c1 (w12.mpr z)), if_neg (fun z => c2 (w13.mpr z)), if_neg (fun z => c3 (w14.mpr z)), if_neg (fun z => c4 (w0.mpr z)), if_neg (fun z => c5 (w15.mpr z)), if_neg (fun z => c6 (w16.mpr z)), if_pos (w17.mp c)]
  · intro c0 c1 c2 c3 c4 c5 c
    refine ⟨rfl, _, rfl, ?_, rfl⟩
    unfold mato
    rw [if_neg (fun z => c0 (w11.mpr z)), if_neg (fun z => c1 (w12.mpr z)), if_neg (fun z => c2 (w13.mpr z)), if_neg (fun z => c3 (w14.mpr z)), if_neg (fun z => c4 (w0.mpr z)), if_neg (fun z => c5 (w15.mpr z)), if_pos (w16.mp c)]
  · intro c0 c1 c2 c3 c4 c
    refine ⟨rfl, _, rfl, ?_, rfl⟩
    unfold mato
    rw [if_neg (fun z => c0 (w11.mpr z)), if_neg (fun z => c1 (w12.mpr z)), if_neg (fun z => c2 (w13.mpr z)), if_neg (fun z => c3 (w14.mpr z)), if_neg (fun z => c4 (w0.mpr z)), if_pos (w15.mp c)]
  · intro c0 c1 c2 c3 c
    refine ⟨rfl, _, rfl, ?_, rfl⟩
    unfold mato
    rw [if_neg (fun z => c0 (w11.mpr z)), if_neg (fun z => c1 (w12.mpr z)), if_neg (fun z => c2 (w13.mpr z)), if_neg (fun z => c3 (w14.mpr z)), if_pos (w0.mp c)]
  · intro c0 c1 c2 c
    refine ⟨rfl, _, rfl, ?_, rfl⟩
    unfold mato
    rw [if_neg (fun z => c0 (w11.mpr z)), if_neg (fun z => c1 (w12.mpr z)), if_neg (fun z => c2 (w13.mpr z)), if_pos (w14.mp c)]
  · intro c0 c1 c
    refine ⟨rfl, _, rfl, ?_, rfl⟩
    unfold mato
    rw [if_neg (fun z => c0 (w11.mpr z)), if_neg (fun z => c1 (w12.mpr z)), if_pos (w13.mp c)]
  · intro c0 c
    refine ⟨rfl, _, rfl, ?_, rfl⟩
    unfold mato
    rw [if_neg (fun z => c0 (w11.mpr z)), if_pos (w12.mp c)]
  · intro c
    refine ⟨rfl, _, rfl, ?_, rfl⟩
    unfold mato
    rw [if_pos (w11.mp c)]
def mTx (b : Int → Int) (sz : Int) (g : zH) : Prop := g 169 3 = sz ∧ mbt g = b
theorem mTx.out {b : Int → Int} {sz : Int} {g : zH} (t : mTx b sz g) (q : Int) (hq : sz ≤ q) : b q = -1 := by
  rw [← t.2]
  exact if_neg (by rw [t.1]; omega)
theorem f_X11_nx {X : zX} {dep : Nat} {b : Int → Int} {sz j : Int} {h : zH} (hz : 0 ≤ sz ∧ sz ≤ 340) (t : mTx b sz h) (a : mAt b sz j h) (hk : zTK b (min sz 300) j ≠ 0) (hdep : 1 ≤ dep) : zW mX11_next_ X dep 0 0 239 0 (zar 0 [xR 169]) [] h (zQ0 (fun g => mLf h g ∧ mTx b sz g ∧ mAt b sz (j + 1) g)) := by
  have k := a.kd.2.2.2.2.2.2 hk
  have j0 := a.1
  have nl := mnx_le t.out k.2.2
  refine (f_X11_next_ (by rw [t.1]; exact hz) (by omega) hdep).weaken (fun _ g _ q => ⟨q.1, q.2.1, q.2.2.1, ⟨(q.2.2.1.2 3 (by decide)).trans t.1, q.2.2.1.bt.trans t.2⟩, by omega, ?_, ?_⟩)
  · rw [show (j + 1).toNat = j.toNat + 1 by omega]
    exact msk_le t.out 400 _ nl.2
  · have e := q.2.2.2
    rw [t.2, t.1, k.2.1] at e
    rw [show (j + 1).toNat = j.toNat + 1 by omega]
    exact e
theorem f_X11_sign {X : zX} {dep : Nat} {b : Int → Int} {sz j : Int} (c : Int) {h : zH} (hc : zsg c) (hz : 0 ≤ sz ∧ sz ≤ 340) (t : mTx b sz h) (a : mAt b sz j h) (hdep : 2 ≤ dep) : zW mX11_sign X dep 0 0 239 0 (zar 0 [xR 169, xI c]) [] h (zQI (fun v g => zTK b (min sz 300) j = c ∧ v = 1 ∧ mLf h g ∧ mTx b sz g ∧ mAt b sz (j + 1) g ∨ zTK b (min sz 300) j ≠ c ∧ v = 0 ∧ g = zst (zst h 169 53 1) 169 54 (h 169 50))) := by
  have k := a.kd.2.2.2.2.1 c hc
  refine bX11_sign_0 c (by omega) (fun c1 => ?_) (fun c1 => ?_)
  · have k1 := k.mp c1
    refine rX11_sign_15 c (f_X11_nx hz t a (by rw [k1]; simp only [zsg] at hc; omega) (by omega)) (by omega) (fun g hg => ?_)
    exact bX11_sign_18 c ⟨rfl, _, rfl, Or.inl ⟨k1, rfl, hg⟩⟩
  · refine rX11_sign_10 c ((f_X11_bad 1).weaken (fun _ g _ q => ⟨q.1, 0, q.2.2, rfl, q.2.1⟩)) (by omega) (P := fun v g => v = 0 ∧ g = zst (zst h 169 53 1) 169 54 (h 169 50)) (fun v g hg => ?_)
    obtain ⟨rfl, rfl⟩ := hg
    exact bX11_sign_13 c 0 (Or.inl rfl) ⟨rfl, _, rfl, Or.inr ⟨fun z => c1 (k.mpr z), rfl, rfl⟩⟩
/-! the pile, its top first -/
def mPw (g : zH) : List Int → Prop
  | [] => True
  | x :: P => g 204 P.length = x ∧ mPw g P
theorem mPw.drop {g : zH} : ∀ {P : List Int} (r : Nat), mPw g P → mPw g (P.drop r)
  | _, 0, a => a
  | [], _ + 1, _ => trivial
  | _ :: P, r + 1, a => mPw.drop (P := P) r a.2
theorem mPw.cg {g f : zH} : ∀ {P : List Int}, mPw g P → (∀ i : Int, 0 ≤ i → i < P.length → f 204 i = g 204 i) → mPw f P
  | [], _, _ => trivial
  | x :: P, a, e => ⟨(e P.length (by omega) (by rw [List.length_cons]; omega)).trans a.1, mPw.cg a.2 (fun i i0 i1 => e i i0 (by rw [List.length_cons]; omega))⟩
theorem mOpn_le : ∀ P : List Int, 0 ≤ mOpn P ∧ mOpn P ≤ P.length
  | [] => ⟨Int.le_refl _, Int.le_refl _⟩
  | x :: P => by
    have i := mOpn_le P
    show 0 ≤ mOpn P + (if x = 20 ∨ x = 23 then 1 else 0) ∧ mOpn P + (if x = 20 ∨ x = 23 then 1 else 0) ≤ ((P.length + 1 : Nat) : Int)
    split <;> omega
theorem l_X11_open_4 {X : zX} {dep : Nat} {P : List Int} {h : zH} (hp : h 169 47 = P.length) (hl : P.length ≤ 80) (hP : mPw h P) : ∀ r : Nat, r ≤ P.length → zW mX11_open X dep 0 0 239 4 [(0, xR 169), (1, xI (mOpn (P.drop r))), (2, xI (P.length - r))] [] h (zF h [xI (mOpn P)])
  | 0, _ => by
    have i := mOpn_le (P.drop 0)
    rw [List.drop_zero] at i ⊢
    refine bX11_open_4 _ _ (by omega) (by omega) (by omega) (fun _ => ⟨rfl, rfl, rfl⟩) (fun c => absurd (by rw [hp]; omega) c)
  | r + 1, hr => by
    have i := mOpn_le (P.drop (r + 1))
    rw [List.length_drop] at i
    refine bX11_open_4 _ _ (by omega) (by omega) (by omega) (fun c => absurd c (by rw [hp]; omega)) (fun _ => ?_)
    have go := l_X11_open_4 (X := X) (dep := dep) hp hl hP r (by omega)
    have d := hP.drop r
    rw [List.drop_eq_getElem_cons (show r < P.length by omega)] at go d
    have d1 := d.1
    rw [List.length_drop] at d1
    have e : (P.length : Int) - ((r + 1 : Nat) : Int) = ((P.length - (r + 1) : Nat) : Int) := by omega
    rw [e, d1]
    have e2 : (((P.length - (r + 1) : Nat) : Int) + 1) = (P.length : Int) - r := by omega
    rw [e2]
    have e3 : mOpn (P[r] :: P.drop (r + 1)) = mOpn (P.drop (r + 1)) + (if P[r] = 20 then 1 else if P[r] = 23 then 1 else 0 : Int) := by
      show mOpn (P.drop (r + 1)) + (if P[r] = 20 ∨ P[r] = 23 then 1 else 0) = _
      by_cases c1 : P[r] = 20
      · rw [if_pos c1, if_pos (Or.inl c1)]
      · rw [if_neg c1]
        by_cases c2 : P[r] = 23
        · rw [if_pos c2, if_pos (Or.inr c2)]
        · rw [if_neg c2, if_neg (by omega)]
    rw [e3] at go
    exact go
theorem f_X11_open {X : zX} {dep : Nat} {P : List Int} {h : zH} (hp : h 169 47 = P.length) (hl : P.length ≤ 80) (hP : mPw h P) : zW mX11_open X dep 0 0 239 0 (zar 0 [xR 169]) [] h (zF h [xI (mOpn P)]) := by
  refine bX11_open_0 ?_
  have go := l_X11_open_4 (X := X) (dep := dep) hp hl hP P.length (Nat.le_refl _)
  rw [List.drop_length, Int.sub_self] at go
  exact go
theorem l_X11_isOpen_2 {X : zX} {dep : Nat} {P : List Int} {h : zH} (hp : h 169 47 = P.length) (hl : P.length ≤ 80) (hP : mPw h P) : ∀ r : Nat, r ≤ P.length → (23 : Int) ∉ P.drop r → zW mX11_isOpen X dep 0 0 239 2 [(0, xR 169), (1, xI (P.length - r))] [] h (zF h [xI (zb ((23 : Int) ∈ P))])
  | 0, _, hn => by
    rw [List.drop_zero] at hn
    refine bX11_isOpen_2 _ (by omega) (by omega) (fun _ => ⟨rfl, rfl, ?_⟩) (fun c => absurd (by rw [hp]; omega) c) (fun c => absurd (by rw [hp]; omega) c)
    rw [zb_f hn]
  | r + 1, hr, hn => by
    have d := hP.drop r
    rw [List.drop_eq_getElem_cons (show r < P.length by omega)] at d
    have d1 := d.1
    rw [List.length_drop] at d1
    have e : (P.length : Int) - ((r + 1 : Nat) : Int) = ((P.length - (r + 1) : Nat) : Int) := by omega
    have e2 : (((P.length - (r + 1) : Nat) : Int) + 1) = (P.length : Int) - r := by omega
    rw [e]
    refine bX11_isOpen_2 _ (by omega) (by omega) (fun c => absurd c (by rw [hp]; omega)) (fun _ c => ?_) (fun _ c => ⟨rfl, rfl, ?_⟩)
    · rw [d1] at c
      rw [e2]
      refine l_X11_isOpen_2 hp hl hP r (by omega) ?_
      rw [List.drop_eq_getElem_cons (show r < P.length by omega)]
      intro z
      rcases List.mem_cons.mp z with q | q
      · exact c q.symm
      · exact hn q
    · rw [d1] at c
      rw [zb_t (show (23 : Int) ∈ P by rw [← c]; exact List.getElem_mem _)]
theorem f_X11_isOpen {X : zX} {dep : Nat} {P : List Int} {h : zH} (hp : h 169 47 = P.length) (hl : P.length ≤ 80) (hP : mPw h P) : zW mX11_isOpen X dep 0 0 239 0 (zar 0 [xR 169]) [] h (zF h [xI (zb ((23 : Int) ∈ P))]) := by
  refine bX11_isOpen_0 ?_
  have go := l_X11_isOpen_2 (X := X) (dep := dep) hp hl hP P.length (Nat.le_refl _) (by rw [List.drop_length]; intro z; cases z)
  rw [Int.sub_self] at go
  exact go
/-! the steps that are written: a model's step w s n is the class's step x -/
def mtb (w : Int) : Int := if w = 4 then 6 else if w = 5 then 0 else if w = 6 then 1 else if w = 7 then 5 else if w = 8 then 7 else if w = 9 then 8 else if w = 10 then 9 else 10
def mStq (w s n x : Int) : Prop := w = 20 ∧ x = -3 ∨ w = 21 ∧ x = -1 ∨ w = 22 ∧ x = -2 ∨ w = 0 ∧ x = zqs 2 61 1 ∨ w = 1 ∧ x = zqs 3 61 1 ∨ w = 2 ∧ x = zqs 4 61 1 ∨ w = 3 ∧ x = zqs 8 61 0 ∨ (4 ≤ w ∧ w ≤ 11) ∧ (s = 60 ∨ s = 61 ∨ s = 62) ∧ (0 ≤ n ∧ n ≤ 9999) ∧ x = zqs (mtb w) s n
def mSl (g : zH) (T : List Int) : Prop := g 169 46 = T.length ∧ ∀ k : Nat, k < T.length → mStq (g 201 (1040 + k)) (g 202 (1040 + k)) (g 203 (1040 + k)) (T.getD k 0)
/-- all but some of the model's own numbers, the pile and the steps that are being read stand as before -/
def mFx (S : List Int) (h g : zH) : Prop := (∀ o k : Int, o ≠ 169 → o ≠ 204 → (k < 1040 ∨ o ≠ 201 ∧ o ≠ 202 ∧ o ≠ 203) → g o k = h o k) ∧ ∀ k : Int, k ∉ S → g 169 k = h 169 k
theorem mFx.rf (S : List Int) (h : zH) : mFx S h h := ⟨fun _ _ _ _ _ => rfl, fun _ _ => rfl⟩
theorem mFx.tr {S : List Int} {h g f : zH} (a : mFx S h g) (c : mFx S g f) : mFx S h f := ⟨fun o k h1 h2 h3 => (c.1 o k h1 h2 h3).trans (a.1 o k h1 h2 h3), fun k hk => (c.2 k hk).trans (a.2 k hk)⟩
theorem mFx.mono {S S' : List Int} {h g : zH} (a : mFx S h g) (hs : ∀ k ∈ S, k ∈ S') : mFx S' h g := ⟨a.1, fun k hk => a.2 k (fun z => hk (hs k z))⟩
theorem mFx.st {S : List Int} {h g : zH} (a : mFx S h g) {k : Int} (hk : k ∈ S) (x : Int) : mFx S h (zst g 169 k x) := ⟨fun o i h1 h2 h3 => (zst_ne (Or.inl h1)).trans (a.1 o i h1 h2 h3), fun i hi => (zst_ne (Or.inr (fun z : i = k => hi (by rw [z]; exact hk)))).trans (a.2 i hi)⟩
theorem mFx.pl {S : List Int} {h g : zH} (a : mFx S h g) (k x : Int) : mFx S h (zst g 204 k x) := ⟨fun o i h1 h2 h3 => (zst_ne (Or.inl h2)).trans (a.1 o i h1 h2 h3), fun i hi => (zst_ne (Or.inl (by decide))).trans (a.2 i hi)⟩
theorem mFx.wr {S : List Int} {h g : zH} (a : mFx S h g) {q : Int} (hq : q = 201 ∨ q = 202 ∨ q = 203) {k : Int} (hk : 1040 ≤ k) (x : Int) : mFx S h (zst g q k x) := ⟨fun o i h1 h2 h3 => by
  rw [zst_ne (by omega)]
  exact a.1 o i h1 h2 h3, fun i hi => (zst_ne (Or.inl (by omega))).trans (a.2 i hi)⟩
theorem mLf.fx {h g : zH} (a : mLf h g) : mFx mLxS h g := ⟨fun o k h1 _ _ => a.1 o k (fun z => h1 (List.mem_singleton.mp z)), a.2⟩
theorem mLex_cg {b : Int → Int} {sz q : Int} {g f : zH} (a : mLex b sz q g) (e : ∀ k : Int, k ∈ mLxS → f 169 k = g 169 k) : mLex b sz q f := by
  unfold mLex at a ⊢
  rw [e 4 (by decide), e 49 (by decide), e 50 (by decide), e 52 (by decide), e 56 (by decide)]
  exact a
theorem mAt.cg {b : Int → Int} {sz j : Int} {g f : zH} (a : mAt b sz j g) (e : ∀ k : Int, k ∈ mLxS → f 169 k = g 169 k) : mAt b sz j f := ⟨a.1, a.2.1, mLex_cg a.2.2 e⟩
theorem mTx.fx {S : List Int} {b : Int → Int} {sz : Int} {h g : zH} (t : mTx b sz h) (a : mFx S h g) (hS : (3 : Int) ∉ S) : mTx b sz g := by
  refine ⟨(a.2 3 hS).trans t.1, ?_⟩
  rw [← t.2]
  funext i
  unfold mbt
  rw [a.2 3 hS, a.1 170 i (by decide) (by decide) (Or.inr (by decide))]
/-- writing one step -/
def mwr (h : zH) (w s n : Int) : zH := zst (zst (zst (zst h 201 (1040 + h 169 46) w) 202 (1040 + h 169 46) s) 203 (1040 + h 169 46) n) 169 46 (h 169 46 + 1)
theorem mwr_169 (h : zH) (w s n k : Int) : mwr h w s n 169 k = if k = 46 then h 169 46 + 1 else h 169 k := by
  unfold mwr
  by_cases c : k = 46
  · rw [if_pos c, c, zst_self]
  · rw [if_neg c, zst_ne (Or.inr c), zst_ne (Or.inl (by decide)), zst_ne (Or.inl (by decide)), zst_ne (Or.inl (by decide))]
theorem mwr_204 (h : zH) (w s n k : Int) : mwr h w s n 204 k = h 204 k := by
  unfold mwr
  rw [zst_ne (Or.inl (by decide)), zst_ne (Or.inl (by decide)), zst_ne (Or.inl (by decide)), zst_ne (Or.inl (by decide))]
theorem mSl.n0 {g : zH} {T : List Int} (a : mSl g T) : 0 ≤ g 169 46 := by rw [a.1]; omega
theorem mwr_fx {S : List Int} {h : zH} {w s n : Int} (h0 : 0 ≤ h 169 46) (hS : (46 : Int) ∈ S) : mFx S h (mwr h w s n) :=
  ((((mFx.rf S h).wr (Or.inl rfl) (by omega) w).wr (Or.inr (Or.inl rfl)) (by omega) s).wr (Or.inr (Or.inr rfl)) (by omega) n).st hS _
theorem mSl.wr {h : zH} {T : List Int} (a : mSl h T) {w s n x : Int} (hx : mStq w s n x) : mSl (mwr h w s n) (T ++ [x]) := by
  have e : ∀ o k : Int, o ≠ 169 → mwr h w s n o k = if k = 1040 + h 169 46 then (if o = 203 then n else if o = 202 then s else if o = 201 then w else h o k) else h o k := fun o k ho => by
    unfold mwr
    rw [zst_ne (Or.inl ho)]
    by_cases c : k = 1040 + h 169 46
    · rw [if_pos c]
      by_cases c3 : o = 203
      · rw [if_pos c3, c3, c, zst_self]
      · rw [if_neg c3, zst_ne (Or.inl c3)]
        by_cases c2 : o = 202
        · rw [if_pos c2, c2, c, zst_self]
        · rw [if_neg c2, zst_ne (Or.inl c2)]
          by_cases c1 : o = 201
          · rw [if_pos c1, c1, c, zst_self]
          · rw [if_neg c1, zst_ne (Or.inl c1)]
    · rw [if_neg c, zst_ne (Or.inr c), zst_ne (Or.inr c), zst_ne (Or.inr c)]
  refine ⟨?_, fun k hk => ?_⟩
  · rw [mwr_169, if_pos rfl, a.1, List.length_append, List.length_singleton]
    omega
  · rw [List.length_append, List.length_singleton] at hk
    rw [e 201 _ (by decide), e 202 _ (by decide), e 203 _ (by decide), a.1]
    by_cases c : k = T.length
    · have t : (T ++ [x]).getD k 0 = x := by
        rw [c, List.getD_eq_getElem?_getD, List.getElem?_append_right (Nat.le_refl _), Nat.sub_self]
        rfl
      rw [t, if_pos (show (1040 : Int) + (k : Int) = 1040 + (T.length : Int) by omega), if_pos (show (1040 : Int) + (k : Int) = 1040 + (T.length : Int) by omega), if_pos (show (1040 : Int) + (k : Int) = 1040 + (T.length : Int) by omega), if_neg (by decide), if_neg (by decide), if_pos rfl, if_neg (by decide), if_pos rfl, if_pos rfl]
      exact hx
    · have t : (T ++ [x]).getD k 0 = T.getD k 0 := by
        rw [List.getD_eq_getElem?_getD, List.getElem?_append_left (by omega), ← List.getD_eq_getElem?_getD]
      rw [t, if_neg (by omega), if_neg (by omega), if_neg (by omega)]
      exact a.2 k (by omega)
theorem mSl.cg {g f : zH} {T : List Int} (a : mSl g T) (e : f 169 46 = g 169 46) (e1 : ∀ o k : Int, o = 201 ∨ o = 202 ∨ o = 203 → f o k = g o k) : mSl f T := by
  refine ⟨e.trans a.1, fun k hk => ?_⟩
  rw [e1 201 _ (Or.inl rfl), e1 202 _ (Or.inr (Or.inl rfl)), e1 203 _ (Or.inr (Or.inr rfl))]
  exact a.2 k hk
/-- a pile's entries -/
def mPi (P : List Int) : Prop := ∀ x ∈ P, x = 20 ∨ x = 21 ∨ x = 22 ∨ x = 23
theorem f_X11_writeDown {X : zX} {dep : Nat} (k : Int) (hdep : 1 ≤ dep) : ∀ (P T : List Int) (h : zH), h 169 47 = P.length → P.length + T.length ≤ 120 → P.length ≤ 80 → mPw h P → mPi P → mSl h T → zW mX11_writeDown X dep 0 0 239 0 [(0, xR 169), (1, xI k)] [] h (zQ0 (fun g => mFx [46, 47] h g ∧ (∀ i : Int, g 204 i = h 204 i) ∧ g 169 47 = (mpop k P).2.length ∧ mPw g (mpop k P).2 ∧ mSl g (T ++ (mpop k P).1.map mos)))
  | [], T, h, hp, hl, hl8, hP, hi, hT => by
    have p0 : h 169 47 = 0 := hp
    refine bX11_writeDown_0 k (by omega) hdep (fun _ => ⟨rfl, rfl, mFx.rf _ h, fun _ => rfl, hp, trivial, ?_⟩) (fun c => absurd (by omega) c) (fun c => absurd (by omega) c) (fun c => absurd (by omega) c)
    show mSl h (T ++ [])
    rw [List.append_nil]
    exact hT
  | x :: P, T, h, hp, hl, hl8, hP, hi, hT => by
    rw [List.length_cons] at hp hl hl8
    have tp : h 204 (h 169 47 - 1) = x := by
      rw [hp, show ((P.length + 1 : Nat) : Int) - 1 = P.length by omega]
      exact hP.1
    have t0 := hT.1
    have keep : ¬ (x ≠ 23 ∧ k ≤ mbn x) → mFx [46, 47] h h ∧ (∀ i : Int, h 204 i = h 204 i) ∧ h 169 47 = (mpop k (x :: P)).2.length ∧ mPw h (mpop k (x :: P)).2 ∧ mSl h (T ++ (mpop k (x :: P)).1.map mos) := fun c => by
      have e : mpop k (x :: P) = ([], x :: P) := if_neg c
      rw [e]
      refine ⟨mFx.rf _ h, fun _ => rfl, ?_, hP, ?_⟩
      · rw [List.length_cons]; omega
      · show mSl h (T ++ [])
        rw [List.append_nil]
        exact hT
    refine bX11_writeDown_0 k (by omega) hdep (fun c => absurd c (by omega)) (fun _ c => ?_) (fun _ c1 c2 => ?_) (fun _ c1 c2 => ?_)
    · rw [tp] at c
      exact ⟨rfl, rfl, keep (fun z => z.1 c)⟩
    · rw [tp] at c1 c2
      exact ⟨rfl, rfl, keep (fun z => by have := z.2; unfold mbn at this; omega)⟩
    · rw [tp] at c1 c2
      have e : mpop k (x :: P) = (x :: (mpop k P).1, (mpop k P).2) := if_pos ⟨c1, by unfold mbn; omega⟩
      refine bX11_writeDown_41 k (by omega) ?_
      have e46 : zst h 169 47 (h 169 47 - 1) 169 46 = h 169 46 := zst_ne (Or.inr (by decide))
      have hT1 : mSl (zst h 169 47 (h 169 47 - 1)) T := hT.cg e46 (fun o i ho => zst_ne (Or.inl (by omega)))
      refine rX11_writeDown_63 k _ ((f_X11_write _ 0 0 (by rw [e46]; omega)).weaken (fun _ g _ q => ⟨q.1, q.2.2, q.2.1⟩)) hdep (P := fun g => g = mwr (zst h 169 47 (h 169 47 - 1)) (h 204 (h 169 47 - 1)) 0 0) (fun g hg => ?_)
      rw [tp] at hg
      refine bX11_writeDown_66 k ?_
      have sp : mStq x 0 0 (mos x) := by
        have ix := hi x List.mem_cons_self
        unfold mStq mos
        rcases ix with z | z | z | z
        · exact Or.inl ⟨z, by rw [if_pos z]⟩
        · exact Or.inr (Or.inl ⟨z, by rw [if_neg (by omega), if_pos z]⟩)
        · exact Or.inr (Or.inr (Or.inl ⟨z, by rw [if_neg (by omega), if_neg (by omega)]⟩))
        · exact absurd z c1
      have s2 : mSl g (T ++ [mos x]) := by rw [hg]; exact hT1.wr sp
      have f2 : mFx [46, 47] h g := by
        rw [hg]
        exact ((mFx.rf _ h).st (by decide) _).tr (mwr_fx hT1.n0 (by decide))
      have e204 : ∀ i : Int, g 204 i = h 204 i := fun i => by
        rw [hg, mwr_204]
        exact zst_ne (Or.inl (by decide))
      have p2 : g 169 47 = P.length := by
        rw [hg, mwr_169, if_neg (by decide), zst_self]
        omega
      rw [e]
      refine (f_X11_writeDown k hdep P (T ++ [mos x]) g p2 (by rw [List.length_append, List.length_singleton]; omega) (by omega) (hP.2.cg (fun i _ _ => e204 i)) (fun y hy => hi y (List.mem_cons_of_mem _ hy)) s2).weaken (fun _ f _ q => ⟨q.1, q.2.1, f2.tr q.2.2.1, fun i => (q.2.2.2.1 i).trans (e204 i), q.2.2.2.2.1, q.2.2.2.2.2.1, ?_⟩)
      have s3 := q.2.2.2.2.2.2
      rw [List.append_assoc] at s3
      exact s3
