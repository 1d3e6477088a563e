/** Promise 21: forget. */
public final class Promise21Test extends Check {
    private static HeartVanes forgotten() {
        HeartVanes vanes = busy();
        vanes.forget();
        return vanes;
    }

    static void promise21_theAnswerIsHowManyWere() {
        for (int many = 0; many <= 6; many++) {
            HeartVanes vanes = new HeartVanes();
            for (int i = 0; i < many; i++) {
                vanes.see(i % 6, i, i);
            }
            due("forget() of " + many, vanes.forget(), many);
            due("count(6)", vanes.count(6), 0);
            due("forget() again", vanes.forget(), 0);
        }
    }

    static void promise21_whatWasRefusedIsNotCounted() {
        HeartVanes vanes = new HeartVanes();
        vanes.see(0, 21, 0);
        due("forget(), BAD ones", vanes.forget(), 0);
        for (int i = 0; i < 9; i++) {
            vanes.see(0, 0, 0);
        }
        due("forget(), FULL ones", vanes.forget(), 6);
    }

    static void promise21_nothingIsSeenOfAny() {
        HeartVanes vanes = new HeartVanes();
        for (int p = 0; p < 6; p++) {
            vanes.see(p, 0, 7);
            due("kinds(" + p + "), SEEN", vanes.kinds(p), 0);
        }
        vanes.forget();
        for (int p = 0; p < 6; p++) {
            due("kinds(" + p + "), forgotten", vanes.kinds(p), 15);
        }
    }

    static void promise21_anOldOneDoesNotComeBack() {
        HeartVanes vanes = new HeartVanes();
        vanes.see(0, 0, 7);
        vanes.see(1, 0, 7);
        vanes.forget();
        vanes.see(0, 0, 0);
        due("kinds(0)", vanes.kinds(0), 15);
        due("kinds(1)", vanes.kinds(1), 15);
    }

    static void promise21_onlyWhatIsSeenIsForgotten() {
        HeartVanes vanes = forgotten();
        int[] counts = {9, 8, 6, 5, 6, 8, 0, 4, 1, 111};
        for (int what = 0; what < counts.length; what++) {
            due("count(" + what + ")", vanes.count(what), counts[what]);
        }
        leaves("forget() of nothing", Promise21Test::forgotten, HeartVanes::forget, 0);
    }

    static void promise21_itIsNotUndone() {
        HeartVanes vanes = forgotten();
        vanes.undo();
        due("count(6), undone", vanes.count(6), 0);
        vanes.back();
        due("count(6), back", vanes.count(6), 0);
    }

    public static void main(String[] args) {
        runAll(Promise21Test.class);
    }
}
