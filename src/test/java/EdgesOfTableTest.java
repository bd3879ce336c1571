/** SORT 1, TABLE: one method for each of its sentences that has an edge. */
final class EdgesOfTableTest {
    private static final int LIFT = Given.LIFT;

    public static void main(String[] args) {
        cellsAreZeroAtFirst();
        firstCellsOfRows();
        lastCellsOfRows();
        rowsOfTheGreatestSize();
        hashesAtTheirEdges();
        cellsTakenBackAreZero();
        cellsBelowZero();
        madeOneToZero();
        cellsAtTheBrim(1000);
        cellsAtTheBrim(-1000);
        totalZeroAtTheBrim();
        Check.end();
    }

    private static void cellsAre(Counted spans, int s, int... cells) {
        for (int i = 0; i < cells.length; i++) {
            spans.due(LIFT + cells[i], spans.kept(s, i, 0));
        }
        spans.due(Given.BAD, spans.kept(s, cells.length, 0));
    }

    /** "four rows of c CELLS, 0 at first" */
    private static void cellsAreZeroAtFirst() {
        Counted spans = Given.oneOf(Given.TABLE, 4, 0);
        cellsAre(spans, 0, new int[16]);
        spans.due(0, spans.told(0, 6));
        spans.sketch(Given.TABLE, 64, 0);
        cellsAre(spans, 1, new int[256]);
        spans.due(0, spans.told(1, 6));
    }

    /** "the CELL at HASH j modulo c": those of KEY 199 are all 0, of KEY 130 all 3. */
    private static void firstCellsOfRows() {
        Counted spans = Given.oneOf(Given.TABLE, 4, 0);
        spans.come(0, 199, 3);
        cellsAre(spans, 0, 3, 0, 0, 0, 3, 0, 0, 0, 3, 0, 0, 0, 3, 0, 0, 0);
        spans.due(3, spans.high(0, 199));
        spans.due(0, spans.high(0, 130));
    }

    private static void lastCellsOfRows() {
        Counted spans = Given.oneOf(Given.TABLE, 4, 0);
        spans.come(0, 130, 3);
        cellsAre(spans, 0, 0, 0, 0, 3, 0, 0, 0, 3, 0, 0, 0, 3, 0, 0, 0, 3);
        spans.due(3, spans.high(0, 130));
        spans.due(0, spans.high(0, 199));
    }

    /** Of 64 CELLS the first and the last of each row, and none beyond. */
    private static void rowsOfTheGreatestSize() {
        for (int j = 0; j < 4; j++) {
            for (int place : new int[] {0, 63}) {
                int x = 0;
                while (Given.hash(999, j, x) % 64 != place) {
                    x++;
                }
                Counted spans = Given.oneOf(Given.TABLE, 64, 999);
                spans.come(0, x, -1);
                spans.due(LIFT - 1, spans.kept(0, 64 * j + place, 0));
                spans.due(4, spans.told(0, 6));
                int[] cells = new int[256];
                for (int row = 0; row < 4; row++) {
                    cells[64 * row + Given.hash(999, row, x) % 64] = -1;
                }
                cellsAre(spans, 0, cells);
            }
        }
    }

    /** By SEED 5 HASH 3 of KEY 7128 is 65,536, the greatest, and of KEY 9251 it is 0, the least. */
    private static void hashesAtTheirEdges() {
        Counted spans = Given.oneOf(Given.TABLE, 64, 5);
        spans.due(65536, spans.hash(5, 3, 7128));
        spans.due(0, spans.hash(5, 3, 9251));
        spans.come(0, 7128, 1);
        spans.due(LIFT + 1, spans.kept(0, 3 * 64 + 65536 % 64, 0));
        spans.come(0, 9251, 1);
        spans.due(LIFT + 2, spans.kept(0, 3 * 64, 0));
        spans.sketch(Given.TABLE, 63, 5);
        spans.come(1, 7128, 1);
        spans.due(LIFT + 1, spans.kept(1, 3 * 63 + 65536 % 63, 0));
        spans.come(1, 9251, 1);
        spans.due(LIFT + 1, spans.kept(1, 3 * 63, 0));
    }

    /** "CELLS that are not 0": one that came to 0 again is none of them. */
    private static void cellsTakenBackAreZero() {
        Counted spans = Given.oneOf(Given.TABLE, 4, 0);
        spans.come(0, 130, 1);
        spans.due(4, spans.told(0, 6));
        spans.come(0, 130, -1);
        spans.due(0, spans.told(0, 6));
        spans.come(0, 130, -1);
        spans.due(4, spans.told(0, 6));
        spans.come(0, 199, 1);
        spans.due(8, spans.told(0, 6));
    }

    /** "may be below 0": the answer is the bare CELL, even where it looks like BAD or FULL. */
    private static void cellsBelowZero() {
        Counted spans = Given.oneOf(Given.TABLE, 4, 0);
        for (int cell = -1; cell >= -4; cell--) {
            spans.due(LIFT + cell, spans.come(0, 130, -1));
            spans.due(cell, spans.high(0, 130));
            spans.due(LIFT + cell, spans.kept(0, 3, 0));
        }
        spans.due(0, spans.high(0, 199));
    }

    /** "CELL by CELL added up" */
    private static void madeOneToZero() {
        Counted spans = Given.oneOf(Given.TABLE, 4, 0);
        spans.sketch(Given.TABLE, 4, 0);
        spans.come(0, 130, 7);
        spans.come(1, 130, -7);
        spans.come(1, 199, -1000);
        spans.due(LIFT - 1000, spans.merge(0, 1));
        spans.due(1014, spans.told(0, 4));
        cellsAre(spans, 0, -1000, 0, 0, 0, -1000, 0, 0, 0, -1000, 0, 0, 0, -1000, 0, 0, 0);
        cellsAre(spans, 1, -1000, 0, 0, -7, -1000, 0, 0, -7, -1000, 0, 0, -7, -1000, 0, 0, -7);
    }

    /** The most and the least that a CELL can be. */
    private static void cellsAtTheBrim(int n) {
        Counted spans = Given.oneOf(Given.TABLE, 4, 0);
        spans.sketch(Given.TABLE, 4, 0);
        Given.fillToTheBrim(spans, 130, n);
        int cell = n * 10_000;
        spans.due(cell, spans.high(0, 130));
        spans.due(0, spans.high(0, 199));
        spans.due(LIFT + cell, spans.kept(0, 3, 0));
        spans.due(LIFT + cell, spans.kept(0, 15, 0));
        spans.due(LIFT, spans.kept(0, 14, 0));
        spans.due(LIFT + cell, spans.told(0, 3));
        spans.due(LIFT + cell, spans.clear(0));
    }

    /** MOVED may be at its most while TOTAL and all CELLS are 0. */
    private static void totalZeroAtTheBrim() {
        Counted spans = Given.oneOf(Given.TABLE, 4, 0);
        spans.sketch(Given.TABLE, 4, 0);
        spans.sketch(Given.TABLE, 4, 0);
        Given.moveTo(spans, 0, 2, 130, 1000, 5_000_000);
        Given.moveTo(spans, 1, 2, 130, -1000, 5_000_000);
        spans.due(LIFT, spans.merge(0, 1));
        spans.due(10_000_000, spans.told(0, 4));
        cellsAre(spans, 0, new int[16]);
        spans.due(Given.FULL, spans.come(0, 130, 1));
        spans.due(Given.FULL, spans.come(0, 130, -1));
        spans.due(LIFT, spans.clear(0));
    }
}
