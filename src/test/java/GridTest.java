/** Promises 7 to 10 and 12 to 22: the grid, its slots and their crossings. */
public final class GridTest {
    public static void main(String[] args) {
        firstGrid();
        sizes();
        cells();
        givenLetters();
        sureLetters();
        slotsOfTheFullGrid();
        slotNumbers();
        mostSlots();
        crossings();
        wrongSlots();
        Check.end("GridTest");
    }

    private static void firstGrid() {
        ShopCross shop = new ShopCross();
        Check.same("7 columns", shop.columns(), 4);
        Check.same("8 rows", shop.rows(), 4);
        Check.same("9 slotCount", shop.slotCount(), 4);
        Check.same("10 wordCount", shop.wordCount(), 12);
        shop.addWord(Check.number("ab"));
        Check.same("10 wordCount", shop.wordCount(), 13);
        shop.undo();
        Check.same("10 wordCount", shop.wordCount(), 12);
    }

    private static void sizes() {
        for (int columns = 2; columns <= 6; columns++) {
            for (int rows = 2; rows <= 6; rows++) {
                ShopCross shop = Check.loaded("grid " + columns + " " + rows + ";");
                Check.same("7 columns", shop.columns(), columns);
                Check.same("8 rows", shop.rows(), rows);
                Check.same("9 slotCount", shop.slotCount(), columns + rows);
                Check.same("10 wordCount", shop.wordCount(), 0);
                Check.same("12 last cell", shop.isBlocked(columns - 1, rows - 1), false);
                int x = columns;
                int y = rows;
                Check.argument("12 beyond", () -> shop.isBlocked(x, 0));
                Check.argument("12 beyond", () -> shop.isBlocked(0, y));
                Check.argument("58 beyond", () -> shop.writeRow(y));
            }
        }
    }

    private static void cells() {
        ShopCross shop = Check.loaded("grid 3 5;block 2 1;block 0 4;");
        for (int y = 0; y < 5; y++) {
            for (int x = 0; x < 3; x++) {
                Check.same("12 isBlocked", shop.isBlocked(x, y), x == 2 && y == 1 || x == 0 && y == 4);
            }
        }
        int[][] none = {{-1, 0}, {0, -1}, {3, 0}, {0, 5}, {4, 4}, {6, 0}, {Integer.MIN_VALUE, 0}, {0, Integer.MAX_VALUE}, {1 << 30, 1 << 30}};
        for (int[] cell : none) {
            Check.argument("12", () -> shop.isBlocked(cell[0], cell[1]));
            Check.argument("13", () -> shop.givenLetter(cell[0], cell[1]));
            Check.argument("14", () -> shop.sureLetter(cell[0], cell[1]));
            Check.argument("15", () -> shop.slotAt(cell[0], cell[1], false));
            Check.argument("15", () -> shop.slotAt(cell[0], cell[1], true));
            Check.argument("53", () -> shop.setLetter(cell[0], cell[1], 'a'));
        }
    }

    private static void givenLetters() {
        ShopCross shop = Check.loaded("grid 2 3;letter 1 2 z;letter 0 1 a;");
        Check.same("13 z", shop.givenLetter(1, 2), 'z');
        Check.same("13 a", shop.givenLetter(0, 1), 'a');
        Check.same("13 none", shop.givenLetter(1, 1), 0);
        shop.setLetter(1, 2, 0);
        Check.same("13 taken away", shop.givenLetter(1, 2), 0);
        Check.same("13 blocked", Check.loaded("grid 2 3;block 1 1;").givenLetter(1, 1), 0);
    }

    private static void sureLetters() {
        // two slots across, apart from each other
        ShopCross shop = Check.loaded("grid 3 3;block 0 1;block 1 1;block 2 1;word abc;word abd;word xbe;letter 0 2 a;");
        Check.same("14 letters differ", shop.sureLetter(0, 0), 0);
        Check.same("14 all have it", shop.sureLetter(1, 0), 'b');
        Check.same("14 all have it", shop.sureLetter(0, 2), 'a');
        Check.same("14 letters differ", shop.sureLetter(2, 2), 0);
        Check.same("14 blocked", shop.sureLetter(1, 1), 0);
        ShopCross alone = Check.loaded("grid 2 2;block 1 0;block 0 1;letter 0 0 q;word ab;");
        Check.same("14 a given letter without a slot", alone.sureLetter(0, 0), 0);
        // the slots across of two cells have candidates, those down of three have none
        ShopCross empty = Check.loaded("grid 2 3;word ab;");
        Check.same("14 candidates across", Check.candidates(empty, 0), "ab");
        Check.same("14 one slot has none", empty.sureLetter(0, 0), 0);
        // stuck by the slot in the last row alone
        ShopCross half = Check.loaded("grid 3 3;block 0 1;block 1 1;block 2 1;word abc;letter 0 2 x;");
        Check.same("14 stuck", half.state(), 2);
        Check.same("14 the other slot has one", half.sureLetter(2, 0), 'c');
        Check.same("14 this has none", half.sureLetter(2, 2), 0);
        // stuck: the only word down does not begin as the one across does
        ShopCross differ = Check.loaded("grid 3 2;block 1 1;block 2 1;word abc;word xy;");
        Check.same("14 the slots differ", differ.sureLetter(0, 0), 0);
    }

    private static void slotsOfTheFullGrid() {
        ShopCross shop = Check.loaded("grid 3 2;");
        // the first cell has both, the one across first; then those down in the first row, then the second row
        int[][] due = {{0, 0, 3, 0}, {0, 0, 2, 1}, {1, 0, 2, 1}, {2, 0, 2, 1}, {0, 1, 3, 0}};
        checkSlots(shop, due);
        for (int x = 0; x < 3; x++) {
            for (int y = 0; y < 2; y++) {
                Check.same("15 across", shop.slotAt(x, y, false), y == 0 ? 0 : 4);
                Check.same("15 down", shop.slotAt(x, y, true), x + 1);
            }
        }
    }

    private static void slotNumbers() {
        // ..#...
        // .#....
        // ...#.#
        ShopCross shop = Check.loaded("grid 6 3;block 2 0;block 1 1;block 3 2;block 5 2;");
        int[][] due = {{0, 0, 2, 0}, {0, 0, 3, 1}, {3, 0, 3, 0}, {3, 0, 2, 1}, {4, 0, 3, 1}, {5, 0, 2, 1},
            {2, 1, 4, 0}, {2, 1, 2, 1}, {0, 2, 3, 0}};
        checkSlots(shop, due);
        Check.same("15 no slot down", shop.slotAt(1, 0, true), -1);
        Check.same("15 no slot across", shop.slotAt(0, 1, false), -1);
        Check.same("15 blocked", shop.slotAt(2, 0, false), -1);
        Check.same("15 blocked", shop.slotAt(2, 0, true), -1);
        Check.same("15 the last cell of a slot", shop.slotAt(5, 1, false), 6);
        Check.same("15 the last cell of a slot", shop.slotAt(2, 2, true), 7);
        Check.same("15 alone across", shop.slotAt(4, 2, false), -1);
        Check.same("9 no slots", Check.loaded("grid 2 2;block 0 0;block 1 1;").slotCount(), 0);
        Check.same("9 all blocked", Check.loaded("grid 2 2;block 0 0;block 1 1;block 0 1;block 1 0;").slotCount(), 0);
    }

    private static void mostSlots() {
        // two slots in most rows and columns
        ShopCross shop = Check.loaded("grid 6 6;block 2 0;block 2 1;block 0 2;block 1 2;block 4 2;block 5 2;block 2 4;block 2 5;"
                + "block 3 3;");
        int across = 0;
        int cells = 0;
        for (int slot = 0; slot < shop.slotCount(); slot++) {
            across += shop.isDown(slot) ? 0 : 1;
            cells += shop.lengthOf(slot);
        }
        // ..#... ..#... ##..## ...#.. ..#... ..#...
        Check.same("9 across", across, 11);
        Check.same("18 cells of all slots", cells, (5 + 5 + 2 + 5 + 5 + 5) + (5 + 5 + 2 + 5 + 5 + 5));
    }

    private static void checkSlots(ShopCross shop, int[][] due) {
        Check.same("9 slotCount", shop.slotCount(), due.length);
        for (int slot = 0; slot < due.length; slot++) {
            Check.same("16 firstX of " + slot, shop.firstX(slot), due[slot][0]);
            Check.same("17 firstY of " + slot, shop.firstY(slot), due[slot][1]);
            Check.same("18 lengthOf " + slot, shop.lengthOf(slot), due[slot][2]);
            Check.same("19 isDown " + slot, shop.isDown(slot), due[slot][3] == 1);
        }
    }

    private static void crossings() {
        // ..#...
        // .#....
        // ...#.#
        ShopCross shop = Check.loaded("grid 6 3;block 2 0;block 1 1;block 3 2;block 5 2;");
        int[][][] due = {
            {{1, 0}}, {{0, 0}, {8, 2}}, {{3, 0}, {4, 1}, {5, 2}}, {{2, 0}, {6, 1}}, {{2, 0}, {6, 1}}, {{2, 0}, {6, 1}},
            {{7, 0}, {3, 1}, {4, 2}, {5, 3}}, {{6, 0}, {8, 1}}, {{1, 0}, {7, 2}}};
        for (int slot = 0; slot < due.length; slot++) {
            int s = slot;
            Check.same("20 crossings of " + slot, shop.crossingCount(slot), due[slot].length);
            for (int index = 0; index < due[slot].length; index++) {
                Check.same("21 slot " + slot + " at " + index, shop.crossingSlot(slot, index), due[slot][index][0]);
                Check.same("22 place " + slot + " at " + index, shop.crossingPlace(slot, index), due[slot][index][1]);
            }
            Check.element("21 no such index", () -> shop.crossingSlot(s, due[s].length));
            Check.element("22 no such index", () -> shop.crossingPlace(s, due[s].length));
            Check.element("21 index below 0", () -> shop.crossingSlot(s, -1));
            Check.element("22 index below 0", () -> shop.crossingPlace(s, -1));
        }
        ShopCross alone = Check.loaded("grid 3 2;block 0 1;block 1 1;block 2 1;");
        Check.same("20 none", alone.crossingCount(0), 0);
        Check.element("21 none", () -> alone.crossingSlot(0, 0));
        Check.element("22 none", () -> alone.crossingPlace(0, 0));
    }

    private static void wrongSlots() {
        ShopCross shop = new ShopCross();
        for (int slot : new int[] {-1, 4, 24, Integer.MIN_VALUE, Integer.MAX_VALUE}) {
            Check.bounds("16", () -> shop.firstX(slot));
            Check.bounds("17", () -> shop.firstY(slot));
            Check.bounds("18", () -> shop.lengthOf(slot));
            Check.bounds("19", () -> shop.isDown(slot));
            Check.bounds("20", () -> shop.crossingCount(slot));
            Check.bounds("21 the slot is first", () -> shop.crossingSlot(slot, -1));
            Check.bounds("22 the slot is first", () -> shop.crossingPlace(slot, -1));
            Check.bounds("21", () -> shop.crossingSlot(slot, 0));
            Check.bounds("22", () -> shop.crossingPlace(slot, 0));
            Check.bounds("28", () -> shop.candidateCount(slot));
            Check.bounds("30 the slot is first", () -> shop.candidateAt(slot, -1));
            Check.bounds("36", () -> shop.bestWord(slot));
        }
        ShopCross none = Check.loaded("grid 2 2;block 0 0;block 1 1;");
        Check.bounds("16 no slots", () -> none.firstX(0));
    }
}
