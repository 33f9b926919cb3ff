/-! boxes, checked by runs of the interval machine -/
theorem bt_26_12_1 : bx_A 26 [(-2147483648, 0), (1, 3), (4, 2147483647)] [(11, 11)] [(0, 0)] [(-2147483648, 2147483647)] := bx_all (by decide +kernel)
