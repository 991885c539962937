theorem zc_wsJx4a65c0 : ∀ w ∈ wsJx4a65c0, w ∈ lw_tbl := z_places [86, 82, 84] (by decide +kernel)
theorem zc_wsX20 : ∀ w ∈ wsX20, w ∈ lw_tbl := z_places [253, 255, 257, 259, 261, 263] (by decide +kernel)
theorem zc_wsX10 : ∀ w ∈ wsX10, w ∈ lw_tbl := z_places [343, 345, 347, 349, 351] (by decide +kernel)
theorem zc_wsX00 : ∀ w ∈ wsX00, w ∈ lw_tbl := z_places [414, 416, 418, 420, 422, 424, 426] (by decide +kernel)
