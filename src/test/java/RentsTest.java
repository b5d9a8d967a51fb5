/** Promises 28 to 31: rents. */
public final class RentsTest {
    private static final Check CHECK = new Check();

    public static void main(String[] args) {
        bid();
        given();
        rent();
        giving();
        CHECK.end();
    }

    private static void bids(CellarCars x, int[][] bids) {
        for (int tenant = 0; tenant < bids.length; tenant++) {
            for (int place = 0; place < bids[tenant].length; place++) {
                x.bid(tenant, place, bids[tenant][place]);
            }
        }
    }

    private static void bid() {
        CHECK.promise(28);
        CellarCars x = new CellarCars();
        CHECK.due("bid(0, 4, 999)", x.bid(0, 4, 999), 0);
        CHECK.due("bid(0, 4, 0)", x.bid(0, 4, 0), 999);
        CHECK.due("bid(4, 0, 7)", x.bid(4, 0, 7), 0);
        CHECK.due("bid(4, 0, 7) again", x.bid(4, 0, 7), 7);
        int[][] beyond = {{5, 0, 0}, {-1, 0, 0}, {0, 5, 0}, {0, -1, 0}, {0, 0, 1000}, {0, 0, -1}};
        for (int[] a : beyond) {
            CHECK.due("bid beyond", x.bid(a[0], a[1], a[2]), Check.BEYOND);
        }
        CHECK.due("giving()", x.giving(), 7);
    }

    private static void given() {
        CHECK.promise(29);
        CHECK.words("The PLACE of a TENANT by THE GIVING. BEYOND.");
        CellarCars x = new CellarCars();
        for (int tenant = 0; tenant < 5; tenant++) {
            CHECK.due("without bids", x.given(tenant), tenant);
        }
        bids(x, new int[][] {{9, 8, 0, 0, 0}, {9, 0, 0, 0, 0}, {0, 0, 0, 5, 5}, {0, 0, 0, 5, 5}});
        int[] due = {1, 0, 3, 4, 2};
        for (int tenant = 0; tenant < 5; tenant++) {
            CHECK.due("given(" + tenant + ")", x.given(tenant), due[tenant]);
        }
        CHECK.due("given(5)", x.given(5), Check.BEYOND);
        CHECK.due("given(-1)", x.given(-1), Check.BEYOND);
    }

    private static void rent() {
        CHECK.promise(30);
        CHECK.words("RENT. BEYOND.");
        CellarCars x = new CellarCars();
        CHECK.due("without bids", x.rent(0), 0);
        bids(x, new int[][] {{10, 4}, {8, 3}});
        CHECK.due("rent(0)", x.rent(0), 5);
        CHECK.due("rent(1)", x.rent(1), 0);
        bids(x, new int[][] {{100, 0, 0, 0, 0}, {90, 0, 0, 0, 0}, {80, 0, 0, 0, 0}, {70, 60, 0, 0, 0},
            {70, 50, 0, 0, 0}});
        CHECK.due("the first place at the second's bid", x.rent(0), 90);
        CHECK.due("the second place", x.rent(3), 50);
        CHECK.due("nothing had, nothing paid", x.rent(4), 0);
        CHECK.due("rent(5)", x.rent(5), Check.BEYOND);
        CHECK.due("rent(-1)", x.rent(-1), Check.BEYOND);
    }

    private static void giving() {
        CHECK.promise(31);
        CellarCars x = new CellarCars();
        CHECK.due("without bids", x.giving(), 0);
        bids(x, new int[][] {{1, 2, 3, 4, 999}, {1, 2, 3, 999, 998}, {1, 2, 999, 4, 5},
            {1, 999, 3, 4, 5}, {999, 2, 3, 4, 5}});
        CHECK.due("giving()", x.giving(), 4995);
        x.bid(4, 0, 0);
        CHECK.due("giving() with one less", x.giving(), 3996);
        x.bid(4, 3, 998);
        CHECK.due("giving() with no better change", x.giving(), 3996);
        x.bid(0, 0, 9);
        CHECK.due("giving() with a better change", x.giving(), 9 + 998 + 999 + 999 + 998);
    }
}
