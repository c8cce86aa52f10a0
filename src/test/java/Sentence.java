import java.lang.annotation.Retention;
import java.lang.annotation.RetentionPolicy;

/** Which sentence of the document a test stands for, and the promise that it belongs to. */
@Retention(RetentionPolicy.RUNTIME)
@interface Sentence {
    int promise();

    /** Words of the document; '..' stands for those left out. */
    String text();
}
