/** Promises 37 to 39 and what Term 6 says of sheets; what is in them is seen by lay(). */
final class SheetEdges extends Edges {
    private static final int[] NO_SHEETS = {-1, 3, 4, MIN, MAX};

    SheetEdges(Doc doc) {
        super(doc);
    }

    void run() {
        termSheets();
        sheet();
        sheetRefused();
        cell();
        copy();
        copyRefused();
    }

    /** An item between -1 and 9; else the refusal of lay(). */
    private static int item(BlockStage x, int sheet, int sort, int i) {
        x.stage(1, 1);
        int told = x.lay(sheet, sort, i);
        return told == 1 ? x.look(0, 0) : told;
    }

    /** The items of a sheet, which has just so many. */
    private void items(BlockStage x, int sheet, int sort, int... due) {
        for (int i = 0; i < due.length; i++) is(item(x, sheet, sort, i), due[i]);
        is(item(x, sheet, sort, due.length), -12);
    }

    private static void fill(BlockStage x, int sheet, int sort, int... items) {
        x.sheet(sheet, sort, items.length);
        for (int i = 0; i < items.length; i++) x.cell(sheet, i, items[i]);
    }

    private void termSheets() {
        term(6, "SHEETS 0 .. 2 are rows of numbers", x -> {
            for (int s = 0; s < 3; s++) fill(x, s, 2, s, s + 1, s + 2);
            for (int s = 0; s < 3; s++) items(x, s, 2, s, s + 1, s + 2);
            for (int bad : NO_SHEETS) is(x.sheet(bad, 2, 1), BAD);
        });
        term(6, "or missing (as all are at first)", x -> {
            for (int s = 0; s < 3; s++) {
                is(x.cell(s, 0, 1), -11);
                for (int t = 0; t < 3; t++) is(x.copy(s, 0, t, 0, 0), -11);
                for (int sort = 0; sort < 3; sort++) is(x.lay(s, sort, 0), -11);
            }
            // A row of none is not missing.
            is(x.sheet(1, 0, 0), 1);
            is(x.cell(1, 0, 1), -12);
            is(x.copy(1, 0, 1, 0, 0), 0);
            is(x.lay(1, 0, 0), -12);
        });
        term(6, ": of sort 0 bytes, 1 shorts, 2 ints.", x -> {
            int[] values = {5, 256 + 5, 65536 + 5, 255, 65535, -1, 128, 32768, 65536 * 128, -256, -65536};
            int[][] due = {{5, 5, 5, -1, -1, -1, STATE, 0, 0, 0, 0},
                {5, STATE, 5, STATE, -1, -1, STATE, STATE, 0, STATE, 0},
                {5, STATE, STATE, STATE, STATE, -1, STATE, STATE, STATE, STATE, STATE}};
            for (int sort = 0; sort < 3; sort++) {
                fill(x, sort, sort, values);
                items(x, sort, sort, due[sort]);
            }
        });
    }

    private void sheet() {
        promise(37, "A SHEET becomes a row of n of a sort", x -> {
            for (int n : new int[] {0, 1, 2, 69, 70}) {
                for (int sort = 0; sort < 3; sort++) {
                    is(x.sheet(1, sort, n), 1);
                    is(x.cell(1, n, 1), -12);
                    is(x.cell(1, n - 1, 1), n > 0 ? 1 : -12);
                    is(item(x, 1, sort, n - 1), n > 0 ? 1 : -12);
                    is(item(x, 1, (sort + 1) % 3, 0), -13);
                }
            }
        });
        promise(37, "all 0", x -> {
            for (int sort = 0; sort < 3; sort++) {
                is(x.sheet(2, sort, 3), 1);
                items(x, 2, sort, 0, 0, 0);
                fill(x, 2, sort, 7, 8, 9, 9, 9);
                is(x.sheet(2, sort, 3), 1);
                items(x, 2, sort, 0, 0, 0);
                // A longer one too has nothing of what was there.
                fill(x, 2, sort, 7, 8, 9, 9, 9);
                is(x.sheet(2, sort, 1), 1);
                is(x.sheet(2, sort, 5), 1);
                items(x, 2, sort, 0, 0, 0, 0, 0);
                fill(x, 2, sort, 7, 8, 9);
            }
            fill(x, 0, 2, 5);
            x.sheet(1, 2, 1);
            items(x, 0, 2, 5);
        });
        promise(37, "or missing (sort -1: n does not matter): 1", x -> {
            for (int n : new int[] {0, 1, 70, 71, -1, MIN, MAX}) {
                is(x.sheet(0, 2, 4), 1);
                is(x.cell(0, 0, 1), 1);
                is(x.sheet(0, -1, n), 1);
                is(x.cell(0, 0, 1), -11);
                is(x.lay(0, 2, 0), -11);
            }
            is(x.sheet(2, -1, 0), 1);
            is(x.sheet(0, 2, 4), 1);
            items(x, 0, 2, 0, 0, 0, 0);
        });
    }

    private void sheetRefused() {
        promise(37, "BAD: no such SHEET", x -> {
            for (int bad : NO_SHEETS) {
                is(x.sheet(bad, 0, 1), BAD);
                is(x.sheet(bad, -1, 1), BAD);
            }
            for (int s = 0; s < 3; s++) is(x.cell(s, 0, 1), -11);
        });
        promise(37, ", sort;", x -> {
            fill(x, 0, 1, 6, 7);
            for (int bad : new int[] {-2, 3, 4, MIN, MAX}) is(x.sheet(0, bad, 1), BAD);
            items(x, 0, 1, 6, 7);
        });
        promise(37, "n above 70", x -> {
            fill(x, 0, 1, 6, 7);
            for (int bad : new int[] {71, 72, 128, MAX}) {
                for (int sort = 0; sort < 3; sort++) is(x.sheet(0, sort, bad), BAD);
            }
            items(x, 0, 1, 6, 7);
            is(x.sheet(0, 1, 70), 1);
        });
        promise(37, "-14", x -> {
            fill(x, 0, 1, 6, 7);
            for (int bad : new int[] {-1, -2, -70, MIN}) {
                for (int sort = 0; sort < 3; sort++) is(x.sheet(0, sort, bad), -14);
            }
            items(x, 0, 1, 6, 7);
        });
    }

    private void cell() {
        promise(38, "Item i of a SHEET becomes v", x -> {
            fill(x, 1, 2, 0, 0, 0);
            is(x.cell(1, 1, 5), 1);
            items(x, 1, 2, 0, 5, 0);
            is(x.cell(1, 1, -1), 1);
            is(x.cell(1, 2, 9), 1);
            items(x, 1, 2, 0, -1, 9);
            x.sheet(0, 2, 70);
            is(x.cell(0, 69, 4), 1);
            is(item(x, 0, 2, 69), 4);
            is(item(x, 0, 2, 68), 0);
            // The last item of one is not the first of the next one.
            items(x, 1, 2, 0, -1, 9);
        });
        promise(38, "(of bytes, shorts its lowest 8, 16 bits): 1", x -> {
            for (int s = 0; s < 3; s++) x.sheet(s, s, 1);
            int[][] values = {{256 + 3, 3, STATE, STATE}, {65536 + 3, 3, 3, STATE}, {255, -1, STATE, STATE},
                {65535, -1, -1, STATE}, {MIN + 4, 4, 4, STATE}, {MAX, -1, -1, STATE}, {-1, -1, -1, -1},
                {-256 + 9, 9, STATE, STATE}, {127, STATE, STATE, STATE}, {128, STATE, STATE, STATE}};
            for (int[] v : values) {
                for (int s = 0; s < 3; s++) {
                    is(x.cell(s, 0, v[0]), 1);
                    is(item(x, s, s, 0), v[s + 1]);
                }
            }
        });
        promise(38, "BAD: no such SHEET", x -> {
            for (int bad : NO_SHEETS) is(x.cell(bad, 0, 1), BAD);
            for (int s = 0; s < 3; s++) x.sheet(s, 2, 1);
            for (int bad : NO_SHEETS) is(x.cell(bad, 0, 1), BAD);
            for (int s = 0; s < 3; s++) items(x, s, 2, 0);
        });
        promise(38, "-11", x -> {
            for (int s = 0; s < 3; s++) {
                is(x.cell(s, 0, 1), -11);
                x.sheet(s, 2, 1);
                is(x.cell(s, 0, 1), 1);
                x.sheet(s, -1, 1);
                is(x.cell(s, 0, 1), -11);
            }
        });
        promise(38, "-12", x -> {
            fill(x, 1, 2, 6, 7);
            x.sheet(0, 2, 2);
            x.sheet(2, 2, 2);
            for (int bad : new int[] {-1, 2, 3, 70, MIN, MAX}) is(x.cell(1, bad, 1), -12);
            items(x, 1, 2, 6, 7);
            items(x, 0, 2, 0, 0);
            items(x, 2, 2, 0, 0);
            x.sheet(0, 2, 70);
            is(x.cell(0, 70, 5), -12);
            items(x, 1, 2, 6, 7);
        });
    }

    private void copy() {
        promise(39, "n items of a SHEET from i on come to another SHEET", x -> {
            for (int sort = 0; sort < 3; sort++) {
                fill(x, 0, sort, 1, 2, 3, 4);
                fill(x, 2, sort, 5, 6, 7);
                is(x.copy(0, 1, 2, 0, 2), 2);
                items(x, 2, sort, 2, 3, 7);
                items(x, 0, sort, 1, 2, 3, 4);
                is(x.copy(0, 3, 2, 0, 1), 1);
                items(x, 2, sort, 4, 3, 7);
            }
        });
        promise(39, "(or the same)", x -> {
            fill(x, 1, 0, 1, 2, 3, 4, 5);
            is(x.copy(1, 0, 1, 3, 2), 2);
            items(x, 1, 0, 1, 2, 3, 1, 2);
            is(x.copy(1, 2, 1, 2, 3), 3);
            items(x, 1, 0, 1, 2, 3, 1, 2);
        });
        promise(39, "from j on", x -> {
            fill(x, 0, 1, 1, 2, 3);
            fill(x, 1, 1, 9, 9, 9, 9);
            is(x.copy(0, 0, 1, 1, 3), 3);
            items(x, 1, 1, 9, 1, 2, 3);
            is(x.copy(0, 0, 1, 3, 1), 1);
            items(x, 1, 1, 9, 1, 2, 1);
        });
        promise(39, "as they all were before: n", x -> {
            fill(x, 0, 2, 1, 2, 3, 4, 5);
            is(x.copy(0, 0, 0, 1, 4), 4);
            items(x, 0, 2, 1, 1, 2, 3, 4);
            fill(x, 0, 2, 1, 2, 3, 4, 5);
            is(x.copy(0, 1, 0, 0, 4), 4);
            items(x, 0, 2, 2, 3, 4, 5, 5);
            is(x.copy(0, 0, 0, 0, 0), 0);
            is(x.copy(0, 0, 0, 0, 5), 5);
            items(x, 0, 2, 2, 3, 4, 5, 5);
            x.sheet(1, 2, 70);
            is(x.copy(1, 0, 1, 0, 70), 70);
        });
    }

    private void copyRefused() {
        promise(39, "BAD: no such SHEETS", x -> {
            for (int s = 0; s < 3; s++) x.sheet(s, 2, 1);
            for (int bad : NO_SHEETS) {
                is(x.copy(bad, 0, 0, 0, 1), BAD);
                is(x.copy(0, 0, bad, 0, 1), BAD);
                is(x.copy(bad, 0, bad, 0, 1), BAD);
            }
        });
        promise(39, "-11", x -> {
            x.sheet(1, 2, 1);
            is(x.copy(0, 0, 1, 0, 0), -11);
            is(x.copy(1, 0, 0, 0, 0), -11);
            is(x.copy(0, 0, 0, 0, 0), -11);
            x.sheet(0, 2, 1);
            is(x.copy(0, 0, 1, 0, 1), 1);
            x.sheet(1, -1, 0);
            is(x.copy(0, 0, 1, 0, 1), -11);
        });
        promise(39, "-13: they are not of one sort", x -> {
            for (int s = 0; s < 3; s++) x.sheet(s, s, 1);
            for (int s = 0; s < 9; s++) is(x.copy(s / 3, 0, s % 3, 0, 0), s / 3 == s % 3 ? 0 : -13);
            x.sheet(0, 2, 1);
            is(x.copy(0, 0, 2, 0, 1), 1);
        });
        promise(39, "-12: n, i or j is below 0", x -> {
            fill(x, 0, 2, 1, 2, 3, 4);
            fill(x, 1, 2, 5, 6, 7, 8);
            for (int bad : new int[] {-1, -4, MIN}) {
                is(x.copy(0, bad, 1, 0, 1), -12);
                is(x.copy(0, 0, 1, bad, 1), -12);
                is(x.copy(0, 0, 1, 0, bad), -12);
                is(x.copy(0, bad, 1, 0, 0), -12);
                is(x.copy(0, 0, 1, bad, 0), -12);
                is(x.copy(0, 2, 1, 2, bad), -12);
            }
            items(x, 1, 2, 5, 6, 7, 8);
        });
        promise(39, "or beyond either's end", x -> {
            fill(x, 0, 2, 1, 2, 3, 4);
            fill(x, 1, 2, 5, 6);
            int[][] beyond = {{0, 0, 3}, {3, 0, 2}, {0, 1, 2}, {4, 0, 1}, {0, 2, 1}, {5, 0, 0}, {0, 3, 0},
                {MAX, 0, 0}, {0, MAX, 0}, {0, 0, MAX}, {MAX, MAX, MAX}, {1, 1, MAX}, {MAX, 0, 1}, {0, MAX, 1}};
            for (int[] b : beyond) is(x.copy(0, b[0], 1, b[1], b[2]), -12);
            is(x.copy(1, 0, 0, 0, 3), -12);
            is(x.copy(1, 1, 0, 0, 2), -12);
            is(x.copy(1, 0, 0, 3, 2), -12);
            items(x, 1, 2, 5, 6);
            items(x, 0, 2, 1, 2, 3, 4);
            // The ends themselves are within.
            is(x.copy(0, 4, 1, 2, 0), 0);
            is(x.copy(1, 0, 0, 2, 2), 2);
            items(x, 0, 2, 1, 2, 5, 6);
        });
    }
}
