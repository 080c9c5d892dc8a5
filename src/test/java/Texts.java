/** Texts for the tests of fault and load. */
final class Texts {
    private Texts() {
    }

    /** This many items of 7 characters, all different, for 4 states and 5 symbols. */
    static String shortest(int many) {
        StringBuilder text = new StringBuilder();
        for (int k = 0; k < many; k++) {
            text.append(k % 4).append((char) ('a' + k / 4 % 5)).append('>').append((k + k / 20) % 4).append(":7;");
        }
        return text.toString();
    }

    /** This many items of 10 characters, all different, for 4 states and 5 symbols. */
    static String longest(int many) {
        StringBuilder text = new StringBuilder();
        for (int k = 0; k < many; k++) {
            text.append(k % 4).append((char) ('a' + k / 4 % 5)).append('>').append((k + 1) % 4).append("eb:20;");
        }
        return text.toString();
    }
}
