/** All that a farm tells by calls that change nothing. */
final class Snapshot {
    private Snapshot() {
    }

    static String of(ThresholdRow farm) {
        StringBuilder text = new StringBuilder();
        for (char what : "aehcbtgswfxrmo".toCharArray()) {
            text.append(what).append('=').append(farm.account(what)).append(' ');
        }
        text.append("flour=").append(farm.flour()).append(" rats=").append(farm.rats());
        text.append(" carried=").append(farm.carried()).append(" money=").append(farm.money());
        text.append(" sum=").append(farm.checksum()).append(" sound=").append(farm.isSound());
        for (int hand = 0; hand < 8; hand++) {
            tellHand(text, farm, hand);
        }
        for (int lot = 0; lot < 12; lot++) {
            tellLot(text, farm, lot);
        }
        for (int bin = 0; bin < 6; bin++) {
            text.append(" bin").append(bin).append('=').append(farm.binOf(bin, 'b'));
            text.append('/').append(farm.binOf(bin, 'f')).append('/').append(farm.binOf(bin, 'c'));
        }
        return text.toString();
    }

    private static void tellHand(StringBuilder text, ThresholdRow farm, int hand) {
        try {
            int place = farm.placeOf(hand);
            text.append(" hand").append(hand).append('=').append(place).append('/').append(farm.hurt(hand));
            text.append('/').append(farm.owed(hand));
            if (place >= 0) {
                text.append('/').append(farm.errorOf(hand)).append('/').append(farm.strokeOf(hand));
            }
        } catch (IndexOutOfBoundsException none) {
            text.append(" no").append(hand);
        }
    }

    private static void tellLot(StringBuilder text, ThresholdRow farm, int lot) {
        try {
            text.append(" lot").append(lot).append('=').append(farm.heapOf(lot, 'b'));
            text.append('/').append(farm.heapOf(lot, 'f'));
        } catch (IndexOutOfBoundsException none) {
            text.append(" -").append(lot);
        }
    }
}
