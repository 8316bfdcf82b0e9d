/** Promises 45 to 51: the counters, what is always 0, and the shares. */
public final class CountersTest {
    private static final String APART = "grid 3 3;block 0 1;block 1 1;block 2 1;";

    public static void main(String[] args) {
        counters();
        sinceTheLatestLoad();
        alwaysZero();
        sureShare();
        averageCandidates();
        Check.end("CountersTest");
    }

    private static void counters() {
        ShopCross shop = new ShopCross();
        check("the text's guess", shop, 1, 0);
        shop.guess(2, 4);
        check("a guess", shop, 2, 0);
        shop.takeBack();
        check("taken back", shop, 2, 1);
        shop.step();
        check("a step guesses", shop, 3, 1);
        shop.undo();
        check("undone", shop, 2, 1);
        shop.solve(200);
        check("two guesses to the end", shop, 4, 1);
        shop.setLetter(0, 0, 'k');
        check("lost guesses were made", shop, 4, 1);
        Check.same("49 lost", shop.levelDifference(), 0);
        Check.same("49 lost", shop.level(), 0);
        shop.undo();
        Check.same("49 no longer lost", shop.levelDifference(), 0);
        Check.same("49 no longer lost", shop.level(), 3);
        ShopCross steps = new ShopCross();
        steps.step();
        steps.step();
        check("a step takes back", steps, 2, 1);
        steps.leftAfter(2, 1);
        steps.stepsToEnd();
        steps.stateAtEnd();
        check("questions count nothing", steps, 2, 1);
        Check.state("no such copy", () -> steps.restore(0));
        check("refused calls count nothing", steps, 2, 1);
    }

    private static void sinceTheLatestLoad() {
        ShopCross shop = new ShopCross();
        shop.step();
        shop.step();
        shop.save(1);
        Check.put(shop, APART + "word abc;word abd;word abe;guess 0 abc;back;guess 1 abe;word abf;");
        shop.load();
        check("the new text alone", shop, 2, 1);
        Check.same("49", shop.levelDifference(), 0);
        Check.put(shop, "grid 2 2;");
        shop.load();
        check("a new text", shop, 0, 0);
        Check.same("49 nothing was lost since", shop.levelDifference(), 0);
        shop.restore(1);
        check("the counters are part of the state", shop, 2, 1);
        shop.undo();
        shop.undo();
        check("the counters are part of the state", shop, 2, 1);
        shop.undo();
        check("the counters are part of the state", shop, 2, 1);
        Check.same("the first state's rows", shop.rows(), 4);
    }

    private static void check(String what, ShopCross shop, int guesses, int takenBack) {
        Check.same("45 " + what, shop.guesses(), guesses);
        Check.same("46 " + what, shop.takenBack(), takenBack);
    }

    private static void alwaysZero() {
        ShopCross[] shops = {new ShopCross(), Check.loaded("grid 2 3;word ab;"), Check.loaded("grid 2 3;word ab;solve 1;"),
            Check.loaded(APART + "word abc;word abd;word abe;solve 200;"), Check.loaded("grid 2 2;block 0 0;block 1 1;"),
            Check.loaded("grid 2 2;word ab;word cd;word ac;word bd;")};
        for (ShopCross shop : shops) {
            for (int i = 0; i < 4; i++) {
                Check.same("47", shop.supportErrors(), 0);
                Check.same("48", shop.doubleErrors(), 0);
                Check.same("49", shop.levelDifference(), 0);
                shop.solve(1);
            }
            shop.setLetter(0, shop.rows() - 1, 'a');
            Check.same("47", shop.supportErrors(), 0);
            Check.same("48", shop.doubleErrors(), 0);
            Check.same("49", shop.levelDifference(), 0);
        }
    }

    private static void sureShare() {
        Check.same("50 7 of 12", new ShopCross().sureShare(), 7f / 12f);
        Check.same("50 all", Check.loaded("grid 2 2;word ab;word cd;word ac;word bd;solve 1;").sureShare(), 1f);
        Check.same("50 none sure", Check.loaded("grid 2 2;word ab;word cd;word ac;word bd;").sureShare(), 2f / 4f);
        Check.same("50 stuck", Check.loaded("grid 2 2;").sureShare(), 0f);
        Check.same("50 none open", Check.loaded("grid 2 2;block 0 0;block 0 1;block 1 0;block 1 1;").sureShare(), 0f);
        Check.same("50 open, but no slots", Check.loaded("grid 2 2;block 0 0;block 1 1;letter 1 0 a;").sureShare(), 0f);
        // abc, abd, abe in both rows: two of three letters are sure
        Check.same("50 4 of 6", Check.loaded(APART + "word abc;word abd;word abe;").sureShare(), 4f / 6f);
    }

    private static void averageCandidates() {
        Check.same("51 10 of 4", new ShopCross().averageCandidates(), 2.5);
        Check.same("51 no slots", Check.loaded("grid 2 2;block 0 0;block 1 1;").averageCandidates(), 0.0);
        Check.same("51 3 of 5", Check.loaded("grid 2 3;word ab;").averageCandidates(), 3.0 / 5.0);
        Check.same("51 none", Check.loaded("grid 2 2;").averageCandidates(), 0.0);
    }
}
